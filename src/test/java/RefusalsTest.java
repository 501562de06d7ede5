import java.util.ArrayList;
import java.util.List;

/**
 * "REFUSALS change nothing": whatever is refused, all other calls answer afterwards what they
 * answer on an object that was never asked for it.
 */
public final class RefusalsTest {
    private static final Checks checks = new Checks("RefusalsTest");

    /** The tasks that jitter and spin are called with, and what is due. */
    private static final int[] ONE_NUMBER_TASKS = {99, 1, 1, 0};
    private static final long[] ONE_NUMBER_DUE = {-1, -2, -2, -1};

    /** How an object stands when it is asked for what it refuses. */
    private enum State { SMALL, MIXED, FULL }

    /** The kinds of calls, of which each number below is one that is refused. */
    private enum Call {
        TASK(16, 9), JITTER(4, 0), BURST(7, 0), SECTION(7, 4), OFFSET(5, 0), INTERRUPT(8, 8), SPIN(4, 0), ASK(9, 0);

        /** How many are refused in any state, and how many only without room, behind those. */
        final int always;
        final int withoutRoom;

        Call(int always, int withoutRoom) {
            this.always = always;
            this.withoutRoom = withoutRoom;
        }
    }

    public static void main(String[] args) {
        for (State state : State.values()) {
            for (Call call : Call.values()) {
                int count = call.always + (state == State.FULL ? call.withoutRoom : 0);
                for (int number = 0; number < count; number++) {
                    refusedOnce(state, call, number);
                }
                refusedTogether(state, call, count);
            }
        }
        checks.end();
    }

    /** An object is used for at most 512 calls, so each refusal has one of its own. */
    private static void refusedOnce(State state, Call call, int number) {
        AnswerSums asked = made(state);
        String name = state + ", refused " + call + " " + number;
        refuse(name, asked, call, number);
        same(name, made(state), asked);
    }

    /** The room that is left must be that of an object that refused nothing. */
    private static void refusedTogether(State state, Call call, int count) {
        AnswerSums asked = made(state);
        String name = state + ", refused all of " + call;
        for (int number = 0; number < count; number++) {
            refuse(name, asked, call, number);
        }
        same(name, made(state), asked);
        checks.due(name + ": room", rooms(made(state)), rooms(asked));
    }

    private static AnswerSums made(State state) {
        AnswerSums sums = new AnswerSums();
        switch (state) {
            case SMALL:
                sums.task(1, 2, 3);
                sums.task(1, 5, 2);
                sums.task(1, 6, 1);
                sums.burst(2, 1, 3);
                sums.offset(3, 5);
                break;
            case MIXED:
                sums.task(3, 40, 3);
                sums.task(5, 60, 2);
                sums.task(7, 90, 2);
                sums.jitter(1, 11);
                sums.burst(2, 2, 6);
                sums.section(3, 1, 4);
                sums.section(1, 1, 2);
                sums.spin(1, 2);
                sums.interrupt(2, 70);
                break;
            default:
                for (int i = 0; i < 16; i++) {
                    sums.task(1 + i, 2000, i / 2);
                }
                for (int i = 0; i < 8; i++) {
                    sums.interrupt(1 + i, 3000);
                }
                for (int i = 0; i < 10; i++) {
                    sums.section(3, 1 + i, 1 + i);
                }
                sums.section(9, 7, 3);
        }
        return sums;
    }

    private static void refuse(String name, AnswerSums sums, Call call, int number) {
        switch (call) {
            case TASK:
                refuseTask(name, sums, number);
                break;
            case JITTER:
                checks.due(name, ONE_NUMBER_DUE[number],
                        sums.jitter(ONE_NUMBER_TASKS[number], of(number, 5, -1, 20001, -1)));
                break;
            case BURST:
                refuseBurst(name, sums, number);
                break;
            case SECTION:
                refuseSection(name, sums, number);
                break;
            case OFFSET:
                refuseOffset(name, sums, number);
                break;
            case INTERRUPT:
                refuseInterrupt(name, sums, number);
                break;
            case SPIN:
                checks.due(name, ONE_NUMBER_DUE[number],
                        sums.spin(ONE_NUMBER_TASKS[number], of(number, 5, -1, 1001, -1)));
                break;
            default:
                refuseToTell(name, sums, number);
        }
    }

    private static long of(int number, long... all) {
        return all[number];
    }

    private static void refuseTask(String name, AnswerSums sums, int number) {
        long[] owns = {0, 1001, -1, Long.MIN_VALUE, Long.MAX_VALUE, 0, 0, 1001};
        long[] periods = {-1, 20001, Long.MIN_VALUE, Long.MAX_VALUE};
        int[] ranks = {-1, 256, Integer.MIN_VALUE};
        if (number < 8) {
            checks.due(name, -2, Checks.task(sums, owns[number], number < 6 ? 10 : 0, 1));
        } else if (number < 12) {
            checks.due(name, -2, Checks.task(sums, 1, periods[number - 8], 1));
        } else if (number < 15) {
            checks.due(name, -2, Checks.task(sums, 1, 10, ranks[number - 12]));
        } else if (number == 15) {
            boolean full = sums.answer(16) != -2;
            checks.due(name, full ? -4 : Checks.THROWN, Checks.task(sums, 1, 0, 1));
        } else {
            checks.due(name, -4, Checks.task(sums, 1, number % 2 == 0 ? 0 : 20000, number * 9));
        }
    }

    private static void refuseBurst(String name, AnswerSums sums, int number) {
        int[] tasks = {99, 1, 1, 1, 1, 0, 2};
        int[] ns = {5, 0, 21, 5, 5, 0, -1};
        long[] inners = {5, 5, 5, 0, 20001, 0, -1};
        long[] due = {-1, -2, -2, -2, -2, -1, -2};
        checks.due(name, due[number], sums.burst(tasks[number], ns[number], inners[number]));
    }

    private static void refuseSection(String name, AnswerSums sums, int number) {
        int[] tasks = {99, 2, 2, 2, 2, 0, 2, 3, 3, 3, 3};
        int[] resources = {5, 0, 33, 1, 1, 0, -1, 1, 32, 0, 1};
        long[] lengths = {5, 5, 5, 0, 1001, 0, -1, 1000, 1, 5, 0};
        long[] due = {-1, -2, -2, -2, -2, -1, -2, -4, -4, -2, -2};
        checks.due(name, due[number], sums.section(tasks[number], resources[number], lengths[number]));
    }

    private static void refuseOffset(String name, AnswerSums sums, int number) {
        int[] tasks = {99, 1, 1, 3, 0};
        long[] phases = {0, -2, 2000, Long.MAX_VALUE, -2};
        long[] due = {-1, -2, -2, -2, -1};
        checks.due(name, due[number], sums.offset(tasks[number], phases[number]));
    }

    private static void refuseInterrupt(String name, AnswerSums sums, int number) {
        long[] owns = {0, 1001, -1, 5, 5, 5, 0, Long.MAX_VALUE};
        long[] periods = {5, 5, 5, 0, 20001, -1, 0, Long.MAX_VALUE};
        if (number < 8) {
            checks.due(name, -2, sums.interrupt(owns[number], periods[number]));
        } else {
            checks.due(name, -4, sums.interrupt(1 + number, 20000));
        }
    }

    /** Questions are refused as well, and those that are answered must change nothing, either. */
    private static void refuseToTell(String name, AnswerSums sums, int number) {
        switch (number) {
            case 0:
                checks.due(name, -2, sums.answer(99));
                break;
            case 1:
                checks.due(name, -2, sums.longer(-1));
                break;
            case 2:
                checks.due(name, -1, sums.reason(99, 0, 9));
                break;
            case 3:
                checks.due(name, -1, sums.reason(1, 99, 9));
                break;
            case 4:
                checks.due(name, -2, sums.reason(1, 0, 9));
                break;
            case 5:
                checks.due(name, -2, sums.reason(1, 1, -1));
                break;
            case 6:
                checks.due(name, false, sums.plain(99));
                break;
            case 7:
                checks.due(name, true, sums.longer(1) >= 0);
                break;
            default:
                checks.due(name, true, sums.busy(0) > 0);
        }
    }

    private static void same(String name, AnswerSums untouched, AnswerSums asked) {
        List<Long> want = answers(untouched);
        List<Long> got = answers(asked);
        for (int i = 0; i < want.size(); i++) {
            checks.due(name + ": answer " + i, want.get(i), got.get(i));
        }
    }

    /** What an object answers, in some 200 calls at most. */
    private static List<Long> answers(AnswerSums sums) {
        List<Long> all = new ArrayList<>();
        for (int task = 1; task <= 17; task++) {
            all.add(sums.answer(task));
            all.add(sums.plain(task) ? 1L : 0L);
            all.add((long) sums.reason(task, 0, 1));
            all.add((long) sums.reason(task, 1, 1));
            all.add((long) sums.reason(task, 2, 0));
            all.add((long) sums.reason(task, 4, 1));
            all.add((long) sums.reason(task, 5, 2));
        }
        for (int task = 1; task <= 3; task++) {
            all.add(sums.longer(task));
        }
        for (int side = 0; side < 3; side++) {
            all.add(sums.busy(side));
        }
        return all;
    }

    /** How many tasks, interrupts and sections of each of three tasks there is still room for. */
    private static long rooms(AnswerSums sums) {
        long tasks = 0;
        while (tasks < 20 && Checks.task(sums, 1, 20000, 1) > 0) {
            tasks++;
        }
        long interrupts = 0;
        while (interrupts < 20 && sums.interrupt(1, 20000) > 0) {
            interrupts++;
        }
        long rooms = tasks * 100 + interrupts;
        for (int task = 1; task <= 3; task++) {
            long sections = 0;
            while (sections < 20 && sums.section(task, 1, 1) > 0) {
                sections++;
            }
            rooms = rooms * 100 + sections;
        }
        return rooms;
    }
}
