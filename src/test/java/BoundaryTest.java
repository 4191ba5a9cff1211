/**
 * The sentences of the document that name a boundary, in the document's order: one method for each
 * of them, on both sides of the boundary. That refused calls change nothing is RefusalTest's matter.
 */
public final class BoundaryTest {
    private static final int NONE = SpinKernel.NONE;
    private static final int LEAST = Integer.MIN_VALUE, MOST = Integer.MAX_VALUE;
    private static final int IDLE = SpinKernel.IDLE, PLAIN = SpinKernel.PLAIN;
    private static final int SPINS = SpinKernel.SPINS, HOLDS = SpinKernel.HOLDS;

    public static void main(String[] args) {
        terms();
        layingDown();
        theTest();
        sealing();
        jobsComing();
        ticking();
        asking();
        Check.finish();
    }

    private static void terms() {
        theLastOf512Calls();
        noSuchTaskInAnyCall();
        noSuchRequestInAnyCall();
        noSuchCoreOrLockInAnyCall();
        ofSeveralExceptionsNotSealed();
        ofSeveralExceptionsSealed();
    }

    private static void layingDown() {
        newObjectIsEmpty();
        taskNumbers();
        taskOnceOnly();
        coresOfTasks();
        prioritiesOfTasks();
        priorityOnceOnACore();
        distancesOfTasks();
        deadlinesOfTasks();
        workOfTasks();
        sixRequests();
        locksOfRequests();
        lengthsOfRequests();
        firstOuterAfter();
        nextOuterAfter();
        insideAfterAndLength();
        insideOfWhat();
        takeFromFullAndEmpty();
    }

    private static void theTest() {
        groupsOfNoneAndAll();
        spinLeastAndGreatest();
        boundWhats();
        inflatedLeastAndGreatest();
        blockingLeastAndGreatest();
        blockingByLessPriorityOnly();
        responseWhereADistanceBegins();
        responseJustTheDeadline();
        responseOfTheGreatestDeadline();
        responseThatNeverComes();
    }

    private static void sealing() {
        sealWithoutTasks();
        sealJustAtTheDeadline();
        sealTellsTheLeast();
        unsealUntilTheLastJobEnds();
        unsealLetsArriveAtOnce();
        unsealForgetsAll();
    }

    private static void jobsComing() {
        arriveJustAtTheDistance();
        arriveCountsFromTheLastThatCame();
        shortenLengths();
        shortenOuterOnly();
        shortenTheNextJobOnly();
    }

    private static void ticking() {
        tickNumbers();
        tickCountsAllThatEnd();
        shortestJob();
        askBeforeAllWorkAndBehindIt();
        lastTickOfASection();
        blockedByAskingOneTickBefore();
        stillFirstByArrivingInTime();
    }

    private static void asking() {
        coreWhats();
        coreBeforeTheFirstTick();
        rowPlaces();
        jobsWhats();
        jobsWithoutAny();
        spunNoneAndGreatest();
        lateJustAtTheDeadline();
    }

    private static Check.Call run(Runnable call) {
        return () -> {
            call.run();
            return 0;
        };
    }

    private static void taken(String what, Runnable call) {
        Check.due(what + " is taken", Check.outcome(run(call)), "0");
    }

    private static void threw(String what, Class<? extends RuntimeException> due, Check.Call call) {
        Check.due(what, Check.outcome(call), Check.THROWS + due.getSimpleName());
    }

    private static void index(String what, Check.Call call) {
        threw(what, IndexOutOfBoundsException.class, call);
    }

    private static void state(String what, Check.Call call) {
        threw(what, IllegalStateException.class, call);
    }

    private static void argument(String what, Check.Call call) {
        threw(what, IllegalArgumentException.class, call);
    }

    private static int arrive(SpinKernel x, int id) {
        return x.arrive(id) ? 1 : 0;
    }

    private static void comes(SpinKernel x, int... ids) {
        for (int id : ids) {
            Check.due("a job of " + id + " comes", arrive(x, id), 1);
        }
    }

    private static SpinKernel sealed(SpinKernel x) {
        Check.due("seal of what fits", x.seal(), NONE);
        return x;
    }

    /** Task 0 on core 0, with one outer request (lock 2, LENGTH 10) and one that lies in it. */
    private static SpinKernel oneTask() {
        SpinKernel x = new SpinKernel();
        x.task(0, 0, 5, 100, 100, 4);
        x.request(0, 2, 2, 10, NONE);
        x.request(0, 3, 3, 7, 0);
        return x;
    }

    // ---- Terms

    private static void theLastOf512Calls() {
        SpinKernel x = new SpinKernel();
        x.task(0, 0, 0, 1, 1, 1);
        x.seal();
        for (int i = 0; i < 254; i++) {
            Check.due("arrival " + i, arrive(x, 0), 1);
            Check.due("tick " + i, x.tick(1), 1);
        }
        Check.due("the 511th call", x.jobs(0, 1), 1);
        Check.due("the 512th call", x.jobs(0, 0), 254);
    }

    private static void noSuchTaskInAnyCall() {
        for (boolean seal : new boolean[] {false, true}) {
            SpinKernel x = new SpinKernel();
            x.task(7, 0, 5, 10, 10, 1);
            if (seal) {
                sealed(x);
            }
            for (int id : new int[] {-1, 16, LEAST, MOST}) {
                index("task " + id, run(() -> x.task(id, 0, 6, 10, 10, 1)));
            }
            for (int id : new int[] {-1, 0, 6, 8, 15, 16, LEAST, MOST}) {
                index("request of " + id, () -> x.request(id, 0, 0, 1, NONE));
                index("take of " + id, run(() -> x.take(id)));
                index("spin of " + id, () -> x.spin(id, 0));
                index("bound of " + id, () -> x.bound(id, 0));
                index("arrive of " + id, () -> arrive(x, id));
                index("shorten of " + id, run(() -> x.shorten(id, 0, 1)));
                index("jobs of " + id, () -> x.jobs(id, 0));
                index("spun of " + id, () -> x.spun(id, 0));
            }
        }
    }

    private static void noSuchRequestInAnyCall() {
        for (boolean seal : new boolean[] {false, true}) {
            SpinKernel x = oneTask();
            x.task(1, 1, 5, 100, 100, 4);
            if (seal) {
                sealed(x);
                x.shorten(0, 0, 1);
            }
            Check.due("spin of the first", x.spin(0, 0), 0);
            Check.due("spin of the last", x.spin(0, 1), 0);
            Check.due("spun of the first", x.spun(0, 0), 0);
            Check.due("spun of the last", x.spun(0, 1), 0);
            for (int request : new int[] {-1, 2, 5, 6, LEAST, MOST}) {
                index("spin of request " + request, () -> x.spin(0, request));
                index("spun of request " + request, () -> x.spun(0, request));
                index("shorten of request " + request, run(() -> x.shorten(0, request, 1)));
            }
            index("spin of a task without requests", () -> x.spin(1, 0));
            index("spun of a task without requests", () -> x.spun(1, 0));
            index("shorten of a task without requests", run(() -> x.shorten(1, 0, 1)));
        }
    }

    private static void noSuchCoreOrLockInAnyCall() {
        for (boolean seal : new boolean[] {false, true}) {
            SpinKernel x = seal ? sealed(oneTask()) : oneTask();
            Check.due("core 0", x.core(0, 0), NONE);
            Check.due("core 3", x.core(3, 0), NONE);
            for (int core : new int[] {-1, 4, LEAST, MOST}) {
                index("core " + core, () -> x.core(core, 0));
            }
            Check.due("group 0", x.group(0), 0);
            Check.due("group 7", x.group(7), 7);
            Check.due("row 0", x.row(0, 0), NONE);
            Check.due("row 7", x.row(7, 0), NONE);
            for (int lock : new int[] {-1, 8, LEAST, MOST}) {
                index("group " + lock, () -> x.group(lock));
                index("row " + lock, () -> x.row(lock, 0));
                index("row " + lock + ", no such place", () -> x.row(lock, -1));
            }
        }
    }

    private static void ofSeveralExceptionsNotSealed() {
        SpinKernel x = oneTask();
        x.task(1, 1, 5, 100, 100, 4);
        for (int i = 0; i < 6; i++) {
            x.request(1, 0, 0, 1, NONE);
        }
        index("task: none such, wrong numbers", run(() -> x.task(16, 4, -1, 0, 0, 0)));
        state("task: there, wrong numbers", run(() -> x.task(0, 4, -1, 0, 0, 0)));
        state("task: there, its own priority", run(() -> x.task(0, 0, 5, 100, 100, 4)));
        index("request: no task, wrong numbers", () -> x.request(2, -1, 8, 0, 9));
        state("request: six, wrong numbers", () -> x.request(1, -1, 8, 0, 9));
        index("bound: no task, wrong what", () -> x.bound(2, 3));
        index("arrive: no task, not sealed", () -> arrive(x, 2));
        index("shorten: no task, not sealed, wrong length", run(() -> x.shorten(2, 0, 0)));
        index("shorten: no request, not sealed, wrong length", run(() -> x.shorten(0, 2, 0)));
        state("shorten: not sealed, wrong length", run(() -> x.shorten(0, 0, 11)));
        state("shorten: not sealed, not outer", run(() -> x.shorten(0, 1, 1)));
        state("tick: not sealed, 0", () -> x.tick(0));
        state("tick: not sealed, 100001", () -> x.tick(100001));
        index("core: none such, wrong what", () -> x.core(4, 2));
        index("jobs: no task, wrong what", () -> x.jobs(2, 4));
    }

    private static void ofSeveralExceptionsSealed() {
        SpinKernel x = sealed(oneTask());
        index("task: none such, sealed", run(() -> x.task(16, 0, 6, 10, 10, 1)));
        index("task: none such, sealed, wrong numbers", run(() -> x.task(-1, 4, -1, 0, 0, 0)));
        state("task: sealed, there", run(() -> x.task(0, 0, 6, 10, 10, 1)));
        state("task: sealed, wrong numbers", run(() -> x.task(1, 4, -1, 0, 0, 0)));
        state("task: sealed, a priority that is taken", run(() -> x.task(1, 0, 5, 10, 10, 1)));
        index("request: no task, sealed", () -> x.request(1, 0, 0, 1, NONE));
        index("request: no task, sealed, wrong numbers", () -> x.request(1, -1, 8, 0, 9));
        state("request: sealed, wrong numbers", () -> x.request(0, -1, 8, 0, 9));
        index("take: no task, sealed", run(() -> x.take(1)));
        index("shorten: no task, wrong length", run(() -> x.shorten(1, 0, 0)));
        index("shorten: no request, wrong length", run(() -> x.shorten(0, 2, 0)));
        argument("shorten: not outer, wrong length", run(() -> x.shorten(0, 1, 0)));
    }

    // ---- Promises 1 to 4

    private static void newObjectIsEmpty() {
        SpinKernel x = new SpinKernel();
        for (int id = 0; id < 16; id++) {
            int i = id;
            index("no task " + id, () -> x.bound(i, 0));
        }
        state("not sealed", () -> x.tick(1));
        Check.due("nothing is late", x.late(), 0);
    }

    private static void taskNumbers() {
        SpinKernel x = new SpinKernel();
        index("a task before the first", run(() -> x.task(-1, 0, 99, 10, 10, 1)));
        for (int id = 0; id < 16; id++) {
            int i = id;
            taken("task " + id, () -> x.task(i, i % 4, i, 100, 100, 1 + i));
        }
        index("a task behind the last", run(() -> x.task(16, 0, 99, 10, 10, 1)));
        for (int id = 0; id < 16; id++) {
            Check.due("work of task " + id, x.bound(id, 0), 1 + id);
        }
    }

    private static void taskOnceOnly() {
        for (int id : new int[] {0, 15}) {
            SpinKernel x = new SpinKernel();
            taken("task " + id, () -> x.task(id, 0, 5, 10, 10, 1));
            state("task " + id + " once more", run(() -> x.task(id, 0, 5, 10, 10, 1)));
            state("task " + id + " once more, elsewhere", run(() -> x.task(id, 1, 6, 10, 10, 2)));
            x.take(id);
            taken("task " + id + " again", () -> x.task(id, 1, 6, 10, 10, 2));
            Check.due("its work", x.bound(id, 0), 2);
        }
    }

    private static void coresOfTasks() {
        for (int core : new int[] {0, 3}) {
            SpinKernel x = new SpinKernel();
            taken("core " + core, () -> x.task(0, core, 5, 10, 10, 1));
            comes(sealed(x), 0);
            x.tick(1);
            Check.due("it works on core " + core, x.core(core, 0), 0);
        }
        for (int core : new int[] {-1, 4, LEAST, MOST}) {
            SpinKernel x = new SpinKernel();
            argument("core " + core, run(() -> x.task(0, core, 5, 10, 10, 1)));
        }
    }

    private static void prioritiesOfTasks() {
        for (int low : new int[] {0, 999}) {
            SpinKernel x = new SpinKernel();
            taken("priority " + low, () -> x.task(0, 0, low, 10, 10, 1));
            taken("priority " + (low + 1), () -> x.task(1, 0, low + 1, 10, 10, 1));
            comes(sealed(x), 0, 1);
            x.tick(1);
            Check.due("one more goes first", x.core(0, 0), 1);
            x.tick(1);
            Check.due("one less goes then", x.core(0, 0), 0);
        }
        for (int priority : new int[] {-1, 1001, LEAST, MOST}) {
            SpinKernel x = new SpinKernel();
            argument("priority " + priority, run(() -> x.task(0, 0, priority, 10, 10, 1)));
        }
    }

    private static void priorityOnceOnACore() {
        for (int priority : new int[] {0, 500, 1000}) {
            SpinKernel x = new SpinKernel();
            x.task(0, 2, priority, 10, 10, 1);
            argument("the same on its core", run(() -> x.task(1, 2, priority, 10, 10, 1)));
            taken("the same on another core", () -> x.task(1, 3, priority, 10, 10, 1));
            int next = priority == 1000 ? 999 : priority + 1;
            taken("the next one on its core", () -> x.task(2, 2, next, 10, 10, 1));
            x.take(0);
            taken("the same when that one is taken away", () -> x.task(15, 2, priority, 10, 10, 1));
            argument("the same again", run(() -> x.task(0, 2, priority, 10, 10, 1)));
        }
    }

    private static void distancesOfTasks() {
        for (int distance : new int[] {1, 10000}) {
            SpinKernel x = new SpinKernel();
            taken("distance " + distance, () -> x.task(0, 0, 5, distance, 1, 1));
            comes(sealed(x), 0);
            if (distance > 1) {
                x.tick(distance - 1);
                Check.due("one tick before its distance", arrive(x, 0), 0);
            }
            x.tick(1);
            Check.due("just at its distance", arrive(x, 0), 1);
        }
        for (int distance : new int[] {0, -1, 10001, LEAST, MOST}) {
            SpinKernel x = new SpinKernel();
            argument("distance " + distance, run(() -> x.task(0, 0, 5, distance, 1, 1)));
        }
    }

    private static void deadlinesOfTasks() {
        for (int distance : new int[] {1, 2, 50, 10000}) {
            for (int deadline : new int[] {1, distance}) {
                SpinKernel x = new SpinKernel();
                taken("deadline " + deadline, () -> x.task(0, 0, 5, distance, deadline, 1));
                Check.due("a response of 1", x.bound(0, 2), 1);
            }
            for (int deadline : new int[] {0, -1, distance + 1, LEAST, MOST}) {
                SpinKernel x = new SpinKernel();
                argument("deadline " + deadline + " of " + distance,
                        run(() -> x.task(0, 0, 5, distance, deadline, 1)));
            }
        }
    }

    private static void workOfTasks() {
        for (int work : new int[] {1, 1000}) {
            SpinKernel x = new SpinKernel();
            taken("work " + work, () -> x.task(0, 0, 5, 1000, 1000, work));
            Check.due("inflated", x.bound(0, 0), work);
            comes(sealed(x), 0);
            if (work > 1) {
                Check.due("one tick less than the work", x.tick(work - 1), 0);
            }
            Check.due("just the work", x.tick(1), 1);
        }
        for (int work : new int[] {0, -1, 1001, LEAST, MOST}) {
            SpinKernel x = new SpinKernel();
            argument("work " + work, run(() -> x.task(0, 0, 5, 10000, 10000, work)));
        }
    }

    private static void sixRequests() {
        SpinKernel x = new SpinKernel();
        x.task(0, 0, 5, 1000, 1000, 4);
        x.task(1, 0, 6, 1000, 1000, 4);
        for (int i = 0; i < 6; i++) {
            Check.due("outer, the number", x.request(0, 4, i, 10, NONE), i);
            Check.due("inside, the number", x.request(1, 0, i, 10, i == 0 ? NONE : 0), i);
        }
        for (int id = 0; id < 2; id++) {
            int i = id;
            Check.due("the sixth is there", x.spin(i, 5), 0);
            state("a seventh, outer", () -> x.request(i, 4, 0, 10, NONE));
            state("a seventh, inside", () -> x.request(i, 0, 0, 1, 0));
            index("no seventh is there", () -> x.spin(i, 6));
        }
        x.task(2, 0, 7, 1000, 1000, 4);
        Check.due("another task has its own", x.request(2, 0, 0, 1, NONE), 0);
    }

    private static void locksOfRequests() {
        for (int lock : new int[] {0, 7}) {
            SpinKernel x = new SpinKernel();
            x.task(0, 0, 5, 100, 100, 4);
            Check.due("lock " + lock, x.request(0, 0, lock, 10, NONE), 0);
            Check.due("lock " + lock + " inside", x.request(0, 0, lock, 10, 0), 1);
            Check.due("another one inside", x.request(0, 0, 7 - lock, 10, 0), 2);
            Check.due("one group", x.group(7), 0);
        }
        SpinKernel x = new SpinKernel();
        x.task(0, 0, 5, 100, 100, 4);
        x.request(0, 0, 3, 10, NONE);
        for (int lock : new int[] {-1, 8, LEAST, MOST}) {
            argument("lock " + lock, () -> x.request(0, 0, lock, 10, NONE));
            argument("lock " + lock + " inside", () -> x.request(0, 0, lock, 10, 0));
        }
        Check.due("the next number", x.request(0, 0, 0, 10, NONE), 1);
    }

    private static void lengthsOfRequests() {
        for (int length : new int[] {1, 100}) {
            SpinKernel x = new SpinKernel();
            x.task(0, 0, 5, 101, 101, 1);
            Check.due("length " + length, x.request(0, 1, 0, length, NONE), 0);
            Check.due("length " + length + " inside", x.request(0, 0, 0, length, 0), 1);
            Check.due("inflated", x.bound(0, 0), 1 + length);
            comes(sealed(x), 0);
            Check.due("one tick less than all", x.tick(length), 0);
            Check.due("all", x.tick(1), 1);
        }
        SpinKernel x = new SpinKernel();
        x.task(0, 0, 5, 1000, 1000, 4);
        x.request(0, 0, 3, 100, NONE);
        for (int length : new int[] {0, -1, 101, LEAST, MOST}) {
            argument("length " + length, () -> x.request(0, 0, 0, length, NONE));
            argument("length " + length + " inside", () -> x.request(0, 0, 0, length, 0));
        }
        Check.due("the next number", x.request(0, 0, 0, 10, NONE), 1);
    }

    private static void firstOuterAfter() {
        for (int work : new int[] {1, 7, 1000}) {
            for (int after : new int[] {0, work}) {
                SpinKernel x = new SpinKernel();
                x.task(0, 0, 5, 10000, 10000, work);
                Check.due("after " + after + " of " + work, x.request(0, after, 0, 1, NONE), 0);
            }
            for (int after : new int[] {-1, work + 1, LEAST, MOST}) {
                SpinKernel x = new SpinKernel();
                x.task(0, 0, 5, 10000, 10000, work);
                argument("after " + after + " of " + work, () -> x.request(0, after, 0, 1, NONE));
            }
        }
    }

    private static void nextOuterAfter() {
        SpinKernel x = new SpinKernel();
        x.task(0, 0, 5, 1000, 1000, 10);
        x.task(1, 0, 6, 1000, 1000, 10);
        x.request(1, 9, 0, 1, NONE);
        Check.due("another task's does not count", x.request(0, 4, 0, 50, NONE), 0);
        argument("one less", () -> x.request(0, 3, 0, 1, NONE));
        Check.due("as much", x.request(0, 4, 0, 1, NONE), 1);
        Check.due("inside, more than the work", x.request(0, 49, 0, 1, 0), 2);
        argument("one less behind one inside", () -> x.request(0, 3, 0, 1, NONE));
        Check.due("as much behind one inside", x.request(0, 4, 0, 1, NONE), 3);
        Check.due("as much as the work", x.request(0, 10, 0, 1, NONE), 4);
        argument("one less than that", () -> x.request(0, 9, 0, 1, NONE));
        argument("more than the work", () -> x.request(0, 11, 0, 1, NONE));
        Check.due("as much again", x.request(0, 10, 0, 1, NONE), 5);
    }

    private static void insideAfterAndLength() {
        for (int outer : new int[] {1, 40, 100}) {
            SpinKernel x = new SpinKernel();
            x.task(0, 0, 5, 1000, 1000, 1);
            x.request(0, 1, 0, outer, NONE);
            Check.due("the whole of " + outer, x.request(0, 0, 1, outer, 0), 1);
            Check.due("its last tick", x.request(0, outer - 1, 1, 1, 0), 2);
            argument("one tick later", () -> x.request(0, outer, 1, 1, 0));
            argument("before it", () -> x.request(0, -1, 1, 1, 0));
            argument("as long, one tick later", () -> x.request(0, 1, 1, outer, 0));
            argument("as long, before it", () -> x.request(0, -1, 1, outer, 0));
            // The sum of both wraps around for these.
            argument("far behind it", () -> x.request(0, MOST, 1, 1, 0));
            argument("far behind it, as long", () -> x.request(0, MOST - outer + 1, 1, outer, 0));
            argument("far before it", () -> x.request(0, LEAST, 1, 1, 0));
            Check.due("the next number", x.request(0, 0, 1, 1, 0), 3);
        }
        SpinKernel x = new SpinKernel();
        x.task(0, 0, 5, 1000, 1000, 1);
        x.request(0, 1, 0, 40, NONE);
        argument("one tick longer", () -> x.request(0, 0, 1, 41, 0));
        argument("as long as can be, and longer", () -> x.request(0, 0, 1, 100, 0));
    }

    private static void insideOfWhat() {
        SpinKernel x = new SpinKernel();
        x.task(0, 0, 5, 1000, 1000, 1);
        x.task(1, 0, 6, 1000, 1000, 1);
        x.request(1, 0, 0, 10, NONE);
        argument("another task's only", () -> x.request(0, 0, 1, 1, 0));
        Check.due("in none", x.request(0, 0, 2, 10, NONE), 0);
        argument("in itself", () -> x.request(0, 0, 1, 1, 1));
        Check.due("in the first", x.request(0, 0, 2, 10, 0), 1);
        argument("in one inside", () -> x.request(0, 0, 1, 1, 1));
        for (int in : new int[] {-2, 2, 5, 6, LEAST, MOST}) {
            argument("in " + in, () -> x.request(0, 0, 1, 1, in));
        }
        for (int i = 2; i < 5; i++) {
            Check.due("in none, the number", x.request(0, 0, 2, 10, NONE), i);
        }
        argument("in itself, the sixth", () -> x.request(0, 0, 1, 1, 5));
        Check.due("the sixth in the fifth", x.request(0, 0, 3, 1, 4), 5);
        x.take(0);
        x.task(0, 0, 5, 1000, 1000, 1);
        argument("in one that was taken away", () -> x.request(0, 0, 1, 1, 0));
    }

    private static void takeFromFullAndEmpty() {
        SpinKernel x = new SpinKernel();
        for (int id = 0; id < 16; id++) {
            x.task(id, id % 4, id, 10000, 10000, 1);
        }
        for (int id : new int[] {0, 15, 1, 2, 3, 4, 5, 6, 7, 8, 9, 10, 11, 12, 13, 14}) {
            taken("the taking of " + id, () -> x.take(id));
            index("it is gone", run(() -> x.take(id)));
        }
        Check.due("all are gone", x.seal(), NONE);
        index("none when it is sealed", run(() -> x.take(0)));
        x.unseal();
        x.task(0, 0, 5, 10, 10, 1);
        sealed(x);
        state("one when it is sealed", run(() -> x.take(0)));
        x.unseal();
        taken("the taking when it is not sealed any more", () -> x.take(0));
    }

    // ---- Promises 5 to 7

    private static void groupsOfNoneAndAll() {
        SpinKernel x = new SpinKernel();
        x.task(0, 0, 5, 1000, 1000, 1);
        for (int lock = 0; lock < 8; lock++) {
            Check.due("no requests", x.group(lock), lock);
        }
        for (int i = 0; i < 6; i++) {
            x.request(0, 0, 7 - i, 10, i == 0 ? NONE : 0);
        }
        for (int lock = 0; lock < 8; lock++) {
            Check.due("six locks in a group", x.group(lock), Math.min(lock, 2));
        }
        x.task(1, 3, 5, 1000, 1000, 1);
        x.request(1, 0, 0, 10, NONE);
        x.request(1, 0, 1, 10, 0);
        Check.due("the other two", x.group(1), 0);
        Check.due("the six still", x.group(7), 2);
        x.request(1, 0, 7, 10, 0);
        for (int lock = 0; lock < 8; lock++) {
            Check.due("all in a group", x.group(lock), 0);
        }
        x.take(0);
        Check.due("the least", x.group(7), 0);
        Check.due("one that is alone again", x.group(6), 6);
        x.take(1);
        Check.due("all alone again", x.group(7), 7);
    }

    private static void spinLeastAndGreatest() {
        SpinKernel x = new SpinKernel();
        x.task(0, 0, 5, 1000, 1000, 1);
        x.request(0, 0, 0, 100, NONE);
        Check.due("no other core", x.spin(0, 0), 0);
        x.task(4, 0, 6, 1000, 1000, 1);
        x.request(4, 0, 0, 100, NONE);
        Check.due("its own core", x.spin(0, 0), 0);
        x.task(1, 1, 5, 1000, 1000, 1);
        x.request(1, 0, 1, 100, NONE);
        Check.due("another group", x.spin(0, 0), 0);
        x.request(1, 0, 0, 1, NONE);
        Check.due("the shortest", x.spin(0, 0), 1);
        x.request(1, 0, 0, 1, NONE);
        Check.due("as long once more on that core", x.spin(0, 0), 1);
        x.request(1, 0, 0, 100, NONE);
        x.task(2, 2, 5, 1000, 1000, 1);
        x.request(2, 0, 0, 100, NONE);
        x.task(3, 3, 5, 1000, 1000, 1);
        x.request(3, 0, 0, 99, NONE);
        Check.due("one less than all there can be", x.spin(0, 0), 299);
        x.request(3, 0, 0, 100, NONE);
        for (int id : new int[] {0, 2, 4}) {
            Check.due("all there can be", x.spin(id, 0), 300);
        }
        x.request(2, 0, 0, 100, 0);
        Check.due("one that lies in another", x.spin(2, 1), 0);
    }

    private static void boundWhats() {
        SpinKernel x = oneTask();
        Check.due("what 0", x.bound(0, 0), 14);
        Check.due("what 1", x.bound(0, 1), 0);
        Check.due("what 2", x.bound(0, 2), 14);
        for (int what : new int[] {-1, 3, LEAST, MOST}) {
            argument("what " + what, () -> x.bound(0, what));
        }
        sealed(x);
        Check.due("what 2, sealed", x.bound(0, 2), 14);
        argument("what 3, sealed", () -> x.bound(0, 3));
    }

    private static void inflatedLeastAndGreatest() {
        SpinKernel x = new SpinKernel();
        x.task(0, 0, 5, 10000, 3400, 1000);
        x.task(1, 1, 5, 10000, 10000, 1);
        Check.due("the least", x.bound(1, 0), 1);
        for (int i = 0; i < 6; i++) {
            x.request(0, 1000, 0, 100, NONE);
        }
        for (int core = 1; core < 4; core++) {
            x.task(core + 1, core, 6, 10000, 10000, 1);
            x.request(core + 1, 0, 0, 100, NONE);
        }
        Check.due("the greatest", x.bound(0, 0), 1000 + 6 * (100 + 300));
        Check.due("its response, just the deadline", x.bound(0, 2), 3400);
        Check.due("the least still", x.bound(1, 0), 1);
    }

    private static void blockingLeastAndGreatest() {
        SpinKernel x = new SpinKernel();
        x.task(0, 0, 5, 10000, 10000, 1);
        Check.due("without another task", x.bound(0, 1), 0);
        x.task(1, 0, 4, 10000, 10000, 1000);
        Check.due("without a request", x.bound(0, 1), 0);
        x.request(1, 0, 1, 1, NONE);
        Check.due("a section of 1", x.bound(0, 1), 0);
        x.request(1, 0, 1, 2, NONE);
        Check.due("a section of 2", x.bound(0, 1), 1);
        x.request(1, 0, 0, 100, NONE);
        Check.due("the longest section", x.bound(0, 1), 99);
        for (int core = 1; core < 4; core++) {
            x.task(core + 1, core, 5, 10000, 10000, 1);
            x.request(core + 1, 0, 0, 100, NONE);
        }
        Check.due("the greatest", x.bound(0, 1), 399);
        Check.due("of the least priority", x.bound(1, 1), 0);
        Check.due("its response", x.bound(0, 2), 400);
    }

    private static void blockingByLessPriorityOnly() {
        SpinKernel x = new SpinKernel();
        x.task(0, 0, 0, 10000, 10000, 1);
        x.request(0, 0, 0, 10, NONE);
        x.task(1, 0, 1, 10000, 10000, 1);
        x.request(1, 0, 1, 20, NONE);
        x.task(2, 0, 1000, 10000, 10000, 1);
        x.request(2, 0, 2, 30, NONE);
        x.task(3, 1, 0, 10000, 10000, 1);
        x.request(3, 0, 3, 40, NONE);
        Check.due("the least priority", x.bound(0, 1), 0);
        Check.due("one more", x.bound(1, 1), 9);
        Check.due("the greatest priority", x.bound(2, 1), 19);
        Check.due("alone on its core", x.bound(3, 1), 0);
    }

    private static void responseWhereADistanceBegins() {
        for (int work : new int[] {3, 4}) {
            SpinKernel x = new SpinKernel();
            x.task(0, 0, 9, 5, 5, 2);
            x.task(1, 0, 8, 100, 100, work);
            // 3 and 2 end just where the distance begins anew; 4 and 2 are one tick more.
            int due = work == 3 ? 5 : 8;
            Check.due("work " + work, x.bound(1, 2), due);
            comes(sealed(x), 0, 1);
            x.tick(5);
            comes(x, 0);
            x.tick(5);
            Check.due("so it comes, work " + work, x.jobs(1, 1), due);
        }
    }

    private static void responseJustTheDeadline() {
        for (int deadline : new int[] {9, 10, 11}) {
            SpinKernel x = new SpinKernel();
            x.task(0, 0, 9, 50, 50, 4);
            x.task(1, 0, 8, 50, deadline, 3);
            x.task(2, 0, 7, 50, 50, 1);
            x.request(2, 0, 0, 4, NONE);
            Check.due("deadline " + deadline, x.bound(1, 2), deadline < 10 ? NONE : 10);
            Check.due("its blocking is told in any case", x.bound(1, 1), 3);
        }
    }

    private static void responseOfTheGreatestDeadline() {
        for (int deadline : new int[] {9999, 10000}) {
            SpinKernel x = new SpinKernel();
            x.task(0, 0, 9, 10, 10, 9);
            x.task(1, 0, 8, 10000, deadline, 1000);
            Check.due("deadline " + deadline, x.bound(1, 2), deadline < 10000 ? NONE : 10000);
            Check.due("seal", x.seal(), deadline < 10000 ? 1 : NONE);
        }
    }

    private static void responseThatNeverComes() {
        for (int distance : new int[] {1, 2}) {
            SpinKernel x = new SpinKernel();
            x.task(0, 0, 9, distance, distance, 1);
            x.task(1, 0, 8, 10000, 10000, 1);
            Check.due("distance " + distance, x.bound(1, 2), distance == 1 ? NONE : 2);
        }
        SpinKernel x = new SpinKernel();
        for (int id = 0; id < 16; id++) {
            x.task(id, 0, 1000 - id, 1, 1, 1000);
        }
        for (int id = 0; id < 16; id++) {
            Check.due("far too much", x.bound(id, 2), NONE);
        }
    }

    // ---- Promises 8 and 9

    private static void sealWithoutTasks() {
        SpinKernel x = new SpinKernel();
        Check.due("no tasks", x.seal(), NONE);
        state("no tasks, again", x::seal);
        Check.due("it is sealed", x.tick(1), 0);
        state("still", x::seal);
        taken("the unsealing", x::unseal);
        Check.due("no tasks, once more", x.seal(), NONE);
    }

    private static void sealJustAtTheDeadline() {
        SpinKernel x = new SpinKernel();
        x.task(0, 0, 5, 50, 7, 3);
        x.request(0, 0, 0, 4, NONE);
        Check.due("just the deadline", x.bound(0, 2), 7);
        Check.due("just the deadline: sealed", x.seal(), NONE);
        x.unseal();
        x.take(0);
        x.task(0, 0, 5, 50, 6, 3);
        x.request(0, 0, 0, 4, NONE);
        Check.due("one more than the deadline", x.bound(0, 2), NONE);
        Check.due("one more than the deadline: its number", x.seal(), 0);
        state("it was not sealed: tick", () -> x.tick(1));
        state("it was not sealed: arrive", () -> arrive(x, 0));
        state("it was not sealed: unseal", run(x::unseal));
        Check.due("it was not sealed: request", x.request(0, 0, 0, 4, NONE), 1);
        taken("the taking", () -> x.take(0));
    }

    private static void sealTellsTheLeast() {
        SpinKernel x = new SpinKernel();
        x.task(15, 0, 5, 50, 1, 2);
        x.task(8, 1, 5, 50, 50, 2);
        Check.due("the last", x.seal(), 15);
        x.task(14, 2, 5, 50, 1, 2);
        Check.due("one before the last", x.seal(), 14);
        x.task(0, 3, 5, 50, 1, 2);
        Check.due("the first", x.seal(), 0);
        Check.due("again", x.seal(), 0);
        x.take(0);
        x.take(14);
        x.take(15);
        Check.due("none", x.seal(), NONE);
    }

    private static void unsealUntilTheLastJobEnds() {
        SpinKernel x = oneTask();
        x.task(15, 3, 5, 100, 100, 2);
        state("not sealed", run(x::unseal));
        sealed(x);
        taken("the unsealing before any job", x::unseal);
        state("not sealed again", run(x::unseal));
        comes(sealed(x), 0, 15);
        state("both just came", run(x::unseal));
        Check.due("the last task's job ends", x.tick(13), 1);
        state("the first task's last tick is ahead", run(x::unseal));
        Check.due("it ends", x.tick(1), 1);
        taken("the unsealing when all ended", x::unseal);
        state("once only", run(x::unseal));
        comes(sealed(x), 15);
        x.tick(1);
        state("the last task's last tick is ahead", run(x::unseal));
        x.tick(1);
        taken("the unsealing when that one ended", x::unseal);
    }

    private static void unsealLetsArriveAtOnce() {
        SpinKernel x = new SpinKernel();
        x.task(0, 0, 5, 10000, 10000, 1);
        comes(sealed(x), 0);
        x.tick(1);
        Check.due("its distance has not passed", arrive(x, 0), 0);
        x.unseal();
        state("not sealed", () -> arrive(x, 0));
        sealed(x);
        for (int what = 0; what < 4; what++) {
            Check.due("nothing is recorded", x.jobs(0, what), 0);
        }
        Check.due("at once", arrive(x, 0), 1);
        Check.due("then not", arrive(x, 0), 0);
    }

    private static void unsealForgetsAll() {
        SpinKernel x = new SpinKernel();
        for (int core = 0; core < 2; core++) {
            x.task(core, core, 5, 100, 100, 1);
            x.request(core, 0, 0, 5, NONE);
        }
        comes(sealed(x), 0, 1);
        x.tick(11);
        Check.due("recorded: spun", x.spun(1, 0), 5);
        Check.due("recorded: the greatest", x.jobs(1, 1), 11);
        x.shorten(1, 0, 1);
        x.unseal();
        for (int round = 0; round < 2; round++) {
            Check.due("gone: spun", x.spun(1, 0), 0);
            Check.due("gone: what the core did", x.core(1, 1), IDLE);
            for (int what = 0; what < 4; what++) {
                Check.due("gone: jobs, what " + what, x.jobs(1, what), 0);
            }
            if (round == 0) {
                sealed(x);
            }
        }
        comes(x, 1);
        x.tick(50);
        Check.due("gone: what was told of the next job", x.jobs(1, 1), 6);
        Check.due("gone: the greatest", x.spun(1, 0), 0);
    }

    // ---- Promises 10 and 11

    private static void arriveJustAtTheDistance() {
        for (int distance : new int[] {2, 10, 9999}) {
            SpinKernel x = new SpinKernel();
            x.task(0, 0, 5, distance, distance, 1);
            comes(sealed(x), 0);
            Check.due("at the same time", arrive(x, 0), 0);
            x.tick(1);
            if (distance > 2) {
                x.tick(distance - 2);
            }
            Check.due("one tick before", arrive(x, 0), 0);
            Check.due("none came", x.jobs(0, 3), 0);
            x.tick(1);
            Check.due("just then", arrive(x, 0), 1);
            Check.due("one came", x.jobs(0, 3), 1);
        }
        SpinKernel x = new SpinKernel();
        x.task(0, 0, 5, 1, 1, 1);
        comes(sealed(x), 0);
        Check.due("distance 1, at the same time", arrive(x, 0), 0);
        Check.due("distance 1, one job only", x.tick(1), 1);
        Check.due("distance 1, just then", arrive(x, 0), 1);
    }

    private static void arriveCountsFromTheLastThatCame() {
        SpinKernel x = new SpinKernel();
        x.task(0, 0, 5, 10, 10, 1);
        sealed(x);
        x.tick(4);
        Check.due("the first at any time", arrive(x, 0), 1);
        x.tick(6);
        Check.due("the time since it was sealed does not count", arrive(x, 0), 0);
        x.tick(3);
        Check.due("one tick before", arrive(x, 0), 0);
        x.tick(1);
        Check.due("one that did not come does not count", arrive(x, 0), 1);
        x.tick(9);
        Check.due("one tick before, again", arrive(x, 0), 0);
        x.tick(1);
        Check.due("just then, again", arrive(x, 0), 1);
        x.tick(25);
        Check.due("later", arrive(x, 0), 1);
        x.tick(9);
        Check.due("no time is saved up", arrive(x, 0), 0);
    }

    private static void shortenLengths() {
        for (int length : new int[] {1, 2, 99, 100}) {
            SpinKernel x = new SpinKernel();
            x.task(0, 0, 5, 200, 200, 1);
            x.request(0, 0, 0, 100, NONE);
            sealed(x);
            taken("length " + length, () -> x.shorten(0, 0, length));
            comes(x, 0);
            x.tick(200);
            Check.due("its ticks", x.jobs(0, 1), 1 + length);
        }
        for (int longest : new int[] {1, 40, 100}) {
            SpinKernel x = new SpinKernel();
            x.task(0, 0, 5, 200, 200, 1);
            x.request(0, 0, 0, longest, NONE);
            sealed(x);
            for (int length : new int[] {0, -1, longest + 1, 101, LEAST, MOST}) {
                argument("length " + length + " of " + longest, run(() -> x.shorten(0, 0, length)));
            }
            taken("just its LENGTH", () -> x.shorten(0, 0, longest));
            comes(x, 0);
            x.tick(200);
            Check.due("its LENGTH", x.jobs(0, 1), 1 + longest);
        }
    }

    private static void shortenOuterOnly() {
        SpinKernel x = new SpinKernel();
        x.task(0, 0, 5, 200, 200, 1);
        x.request(0, 0, 0, 10, NONE);
        for (int i = 1; i < 5; i++) {
            x.request(0, 0, 0, 10, 0);
        }
        x.request(0, 0, 0, 10, NONE);
        state("not sealed", run(() -> x.shorten(0, 0, 1)));
        sealed(x);
        for (int i = 1; i < 5; i++) {
            int request = i;
            argument("request " + i, run(() -> x.shorten(0, request, 1)));
        }
        taken("the first", () -> x.shorten(0, 0, 1));
        taken("the sixth", () -> x.shorten(0, 5, 2));
        comes(x, 0);
        x.tick(20);
        Check.due("both are shorter", x.jobs(0, 1), 1 + 1 + 2);
        x.unseal();
        state("not sealed any more", run(() -> x.shorten(0, 0, 1)));
    }

    private static void shortenTheNextJobOnly() {
        SpinKernel x = new SpinKernel();
        x.task(0, 0, 5, 20, 20, 1);
        x.request(0, 0, 0, 10, NONE);
        comes(sealed(x), 0);
        x.shorten(0, 0, 9);
        x.shorten(0, 0, 2);
        Check.due("none comes yet", arrive(x, 0), 0);
        x.tick(20);
        Check.due("not in the one that was open", x.jobs(0, 2), 11);
        comes(x, 0);
        x.tick(20);
        Check.due("in the next one, the later one told", x.jobs(0, 2), 3);
        comes(x, 0);
        x.tick(20);
        Check.due("not in the one behind it", x.jobs(0, 2), 11);
        x.shorten(0, 0, 2);
        x.shorten(0, 0, 10);
        comes(x, 0);
        x.tick(20);
        Check.due("the later one, though it is more", x.jobs(0, 2), 11);
    }

    // ---- Promise 12

    private static void tickNumbers() {
        SpinKernel x = new SpinKernel();
        x.task(0, 0, 5, 10, 10, 1);
        state("not sealed, 1", () -> x.tick(1));
        state("not sealed, 100000", () -> x.tick(100000));
        comes(sealed(x), 0);
        for (int n : new int[] {0, -1, 100001, LEAST, MOST}) {
            argument("n " + n, () -> x.tick(n));
        }
        Check.due("n 1", x.tick(1), 1);
        Check.due("n 1, no job", x.tick(1), 0);
        Check.due("n 100000, no job", x.tick(100000), 0);
        comes(x, 0);
        Check.due("n 100000", x.tick(100000), 1);
        x.unseal();
        state("not sealed any more", () -> x.tick(1));
    }

    private static void tickCountsAllThatEnd() {
        SpinKernel x = new SpinKernel();
        for (int id = 0; id < 16; id++) {
            x.task(id, id % 4, id, 100, 100, 3);
        }
        sealed(x);
        Check.due("no job is open", x.tick(100), 0);
        for (int id = 0; id < 16; id++) {
            comes(x, id);
        }
        Check.due("none ends", x.tick(2), 0);
        Check.due("one of each core ends", x.tick(1), 4);
        Check.due("none ends again", x.tick(2), 0);
        Check.due("the next ones", x.tick(1), 4);
        Check.due("all others", x.tick(100), 8);
        for (int id = 0; id < 16; id++) {
            comes(x, id);
        }
        Check.due("all in one call", x.tick(100000), 16);
    }

    private static void shortestJob() {
        SpinKernel x = new SpinKernel();
        x.task(0, 0, 5, 1, 1, 1);
        comes(sealed(x), 0);
        Check.due("it ends in its first tick", x.tick(1), 1);
        Check.due("its response time", x.jobs(0, 1), 1);
        SpinKernel y = new SpinKernel();
        y.task(0, 0, 5, 2, 2, 1);
        y.request(0, 1, 0, 1, NONE);
        comes(sealed(y), 0);
        Check.due("with a section it has one tick more", y.tick(1), 0);
        Check.due("and ends with that", y.tick(1), 1);
        Check.due("its response time with that", y.jobs(0, 1), 2);
    }

    private static void askBeforeAllWorkAndBehindIt() {
        for (int after : new int[] {0, 1, 2, 3}) {
            SpinKernel x = new SpinKernel();
            x.task(0, 0, 5, 100, 100, 3);
            x.request(0, after, 4, 2, NONE);
            comes(sealed(x), 0);
            Check.due("no row before a tick", x.row(4, 0), NONE);
            for (int tick = 0; tick < 5; tick++) {
                boolean inside = tick >= after && tick < after + 2;
                Check.due("ended, after " + after, x.tick(1), tick == 4 ? 1 : 0);
                Check.due("tick " + tick + ", after " + after, x.core(0, 1), inside ? HOLDS : PLAIN);
                Check.due("row in tick " + tick, x.row(4, 0), tick == after ? 0 : NONE);
            }
        }
    }

    private static void lastTickOfASection() {
        SpinKernel x = new SpinKernel();
        x.task(0, 0, 5, 100, 100, 1);
        x.request(0, 0, 4, 1, NONE);
        x.task(1, 1, 5, 100, 100, 1);
        x.request(1, 0, 4, 2, NONE);
        comes(sealed(x), 0, 1);
        x.tick(1);
        Check.due("a section of 1 is held", x.core(0, 1), HOLDS);
        Check.due("and left in the same tick", x.row(4, 0), 1);
        Check.due("the next one spun in it", x.core(1, 1), SPINS);
        x.tick(1);
        Check.due("it holds in the next tick", x.core(1, 1), HOLDS);
        Check.due("its first tick is not its last", x.row(4, 0), 1);
        Check.due("none ends with work ahead", x.tick(1), 0);
        Check.due("its last tick", x.core(1, 1), HOLDS);
        Check.due("it has left", x.row(4, 0), NONE);
        Check.due("its work", x.tick(1), 1);
    }

    /** Cores 0, 1 and 2 ask before core 3's lesser task does, each for as long as can be. */
    private static SpinKernel greatestBlocking() {
        SpinKernel x = new SpinKernel();
        for (int core = 0; core < 4; core++) {
            x.task(core, core, 0, 10000, 10000, 1);
            x.request(core, 0, 0, 100, NONE);
        }
        x.task(4, 3, 1, 10000, 400, 1);
        Check.due("the test's word", x.bound(4, 2), 400);
        return sealed(x);
    }

    private static void blockedByAskingOneTickBefore() {
        SpinKernel x = greatestBlocking();
        comes(x, 0, 1, 2, 3);
        x.tick(1);
        comes(x, 4);
        x.tick(398);
        Check.due("the section's last tick is ahead", x.core(3, 1), HOLDS);
        Check.due("it is not ended", x.jobs(4, 3), 1);
        x.tick(1);
        Check.due("the section's last tick", x.core(3, 0), 3);
        Check.due("its own tick", x.tick(1), 1);
        Check.due("just as the test says", x.jobs(4, 1), 400);
        Check.due("in time", x.late(), 0);
    }

    private static void stillFirstByArrivingInTime() {
        SpinKernel x = greatestBlocking();
        comes(x, 0, 1, 2, 3, 4);
        x.tick(1);
        Check.due("more priority goes before one that would ask", x.core(3, 0), 4);
        Check.due("that one has not asked", x.row(0, 3), NONE);
        Check.due("it ended", x.jobs(4, 1), 1);
        x.tick(1);
        Check.due("then it asks", x.row(0, 3), 3);
    }

    // ---- Promises 13 to 17

    private static void coreWhats() {
        SpinKernel x = new SpinKernel();
        x.task(0, 0, 5, 10, 10, 1);
        x.task(15, 3, 5, 10, 10, 1);
        comes(sealed(x), 0, 15);
        x.tick(1);
        Check.due("the first core, what 0", x.core(0, 0), 0);
        Check.due("the first core, what 1", x.core(0, 1), PLAIN);
        Check.due("the last core, what 0", x.core(3, 0), 15);
        Check.due("the last core, what 1", x.core(3, 1), PLAIN);
        Check.due("one between, what 0", x.core(1, 0), NONE);
        Check.due("one between, what 1", x.core(1, 1), IDLE);
        for (int what : new int[] {-1, 2, LEAST, MOST}) {
            argument("what " + what, () -> x.core(0, what));
            argument("what " + what + " of an idle core", () -> x.core(1, what));
        }
    }

    private static void coreBeforeTheFirstTick() {
        SpinKernel x = new SpinKernel();
        x.task(0, 0, 5, 10, 10, 2);
        for (int round = 0; round < 2; round++) {
            Check.due("not sealed, the task", x.core(0, 0), NONE);
            Check.due("not sealed, the deed", x.core(0, 1), IDLE);
            comes(sealed(x), 0);
            Check.due("no tick yet, the task", x.core(0, 0), NONE);
            Check.due("no tick yet, the deed", x.core(0, 1), IDLE);
            x.tick(2);
            Check.due("the latest tick, the task", x.core(0, 0), 0);
            Check.due("the latest tick, the deed", x.core(0, 1), PLAIN);
            x.unseal();
        }
    }

    private static void rowPlaces() {
        SpinKernel x = new SpinKernel();
        for (int core = 0; core < 4; core++) {
            x.task(core, core, 5, 100, 100, 1);
            x.request(core, 0, 7, 2, NONE);
        }
        int[] outside = {-1, 4, 5, LEAST, MOST};
        Check.due("an empty row", x.row(7, 0), NONE);
        comes(sealed(x), 0, 1, 2);
        x.tick(1);
        Check.due("the third of three", x.row(7, 2), 2);
        Check.due("a fourth of three", x.row(7, 3), NONE);
        comes(x, 3);
        Check.due("none asks before a tick", x.row(7, 3), NONE);
        x.tick(1);
        Check.due("one has left", x.row(7, 0), 1);
        Check.due("one has come", x.row(7, 2), 3);
        x.tick(98);
        Check.due("an empty row again", x.row(7, 0), NONE);
        x.tick(1);
        comes(x, 3, 2, 1, 0);
        x.tick(1);
        for (int i = 0; i < 4; i++) {
            Check.due("a full row in the order of the cores", x.row(7, i), i);
            Check.due("another lock's row", x.row(0, i), NONE);
        }
        for (int i : outside) {
            Check.due("place " + i + " of a full row", x.row(7, i), NONE);
        }
    }

    private static void jobsWhats() {
        SpinKernel x = new SpinKernel();
        x.task(0, 0, 5, 10, 10, 2);
        comes(sealed(x), 0);
        x.tick(1);
        Check.due("one tick before its end, what 0", x.jobs(0, 0), 0);
        Check.due("one tick before its end, what 1", x.jobs(0, 1), 0);
        Check.due("one tick before its end, what 2", x.jobs(0, 2), 0);
        Check.due("one tick before its end, what 3", x.jobs(0, 3), 1);
        x.tick(1);
        Check.due("at its end, what 0", x.jobs(0, 0), 1);
        Check.due("at its end, what 1", x.jobs(0, 1), 2);
        Check.due("at its end, what 2", x.jobs(0, 2), 2);
        Check.due("at its end, what 3", x.jobs(0, 3), 0);
        for (int what : new int[] {-1, 4, LEAST, MOST}) {
            argument("what " + what, () -> x.jobs(0, what));
        }
    }

    private static void jobsWithoutAny() {
        SpinKernel x = new SpinKernel();
        x.task(0, 0, 5, 10, 10, 2);
        x.task(1, 0, 4, 10, 10, 2);
        for (int round = 0; round < 2; round++) {
            for (int what = 0; what < 4; what++) {
                Check.due("not sealed, what " + what, x.jobs(0, what), 0);
            }
            comes(sealed(x), 1);
            x.tick(5);
            for (int what = 0; what < 4; what++) {
                Check.due("no job came, what " + what, x.jobs(0, what), 0);
            }
            Check.due("another task's ended", x.jobs(1, 0), 1);
            x.unseal();
        }
    }

    private static void spunNoneAndGreatest() {
        SpinKernel x = new SpinKernel();
        for (int core = 0; core < 4; core++) {
            x.task(core, core, 5, 401, 401, 1);
            x.request(core, 1, 0, 100, NONE);
            x.request(core, 0, 1, 100, 0);
        }
        comes(sealed(x), 0, 1, 2, 3);
        for (int core = 0; core < 4; core++) {
            Check.due("no tick yet", x.spun(core, 0), 0);
        }
        x.tick(1);
        Check.due("before it asks", x.spun(3, 0), 0);
        x.tick(1);
        Check.due("one tick", x.spun(3, 0), 1);
        x.tick(299);
        Check.due("as long as it can be", x.spun(3, 0), x.spin(3, 0));
        Check.due("the last one ends", x.tick(100), 1);
        for (int core = 0; core < 4; core++) {
            Check.due("each its place", x.spun(core, 0), 100 * core);
            Check.due("inside none", x.spun(core, 1), 0);
            Check.due("its response time", x.jobs(core, 1), 101 + 100 * core);
        }
        comes(x, 3);
        x.tick(401);
        Check.due("the greatest stays", x.spun(3, 0), 300);
    }

    /** More than the deadline can't be met: what is sealed is never late. */
    private static void lateJustAtTheDeadline() {
        SpinKernel x = new SpinKernel();
        for (int core = 0; core < 4; core++) {
            x.task(core, core, 5, 401, 401, 1);
            x.request(core, 0, 0, 100, NONE);
        }
        Check.due("not sealed", x.late(), 0);
        comes(sealed(x), 0, 1, 2, 3);
        Check.due("they just came", x.late(), 0);
        Check.due("one tick before the deadline", x.tick(400), 3);
        Check.due("open one tick before the deadline", x.jobs(3, 3), 1);
        Check.due("not late", x.late(), 0);
        Check.due("at the deadline", x.tick(1), 1);
        Check.due("it took all its time", x.jobs(3, 1), 401);
        Check.due("ended at its deadline", x.late(), 0);
        comes(x, 0, 1, 2, 3);
        x.tick(100000);
        Check.due("long since", x.late(), 0);
        x.unseal();
        Check.due("gone", x.late(), 0);
    }
}
