/** Each promise of the document by hand-made runs: ordinary inputs, edges, wrong inputs. */
public final class PromiseTest {
    private static final int NONE = SpinKernel.NONE;
    private static final int LEAST = Integer.MIN_VALUE, MOST = Integer.MAX_VALUE;

    public static void main(String[] args) {
        promise1NewObject();
        promise2Task();
        promise2TaskNumbers();
        promise3Request();
        promise3RequestInside();
        promise3RequestNumbers();
        promise4Take();
        promise4NothingStaysOfATask();
        promise5Group();
        promise6Spin();
        promise7Inflated();
        promise7Blocking();
        promise7Response();
        promise8Seal();
        promise9Unseal();
        promise10Arrive();
        promise11Shorten();
        promise11ShortenOnceOnly();
        promise12Tick();
        promise12Preemption();
        promise12NoPreemptionInSections();
        promise12RequestsAtOneAfter();
        promise12SixRequests();
        promise13Core();
        promise14Row();
        promise14RowOfAGroup();
        promise15Jobs();
        promise16Spun();
        promise17Late();
        Check.finish();
    }

    /** For calls without an answer. */
    private static Check.Call run(Runnable call) {
        return () -> {
            call.run();
            return 0;
        };
    }

    private static void seal(SpinKernel x) {
        Check.due("seal of what fits", x.seal(), NONE);
    }

    private static void arrive(SpinKernel x, int... ids) {
        for (int id : ids) {
            Check.due("arrival of " + id, x.arrive(id) ? 1 : 0, 1);
        }
    }

    private static void cores(String what, SpinKernel x, int core, int task, int deed) {
        Check.due(what + ", task of core " + core, x.core(core, 0), task);
        Check.due(what + ", deed of core " + core, x.core(core, 1), deed);
    }

    private static void rowIs(String what, SpinKernel x, int lock, int... cores) {
        for (int i = 0; i < 6; i++) {
            Check.due(what + ", place " + i, x.row(lock, i), i < cores.length ? cores[i] : NONE);
        }
    }

    private static void promise1NewObject() {
        SpinKernel x = new SpinKernel();
        for (int id = 0; id < 16; id++) {
            int i = id;
            Check.index("new: jobs of " + id, x, () -> x.jobs(i, 0));
        }
        for (int lock = 0; lock < 8; lock++) {
            Check.due("new: group", x.group(lock), lock);
            rowIs("new: row", x, lock);
        }
        for (int core = 0; core < 4; core++) {
            cores("new", x, core, NONE, SpinKernel.IDLE);
        }
        Check.due("new: late", x.late(), 0);
        Check.state("new: it is not sealed", x, run(x::unseal));
        Check.due("new: seal", x.seal(), NONE);
        SpinKernel y = new SpinKernel();
        Check.state("another new one is not sealed", y, () -> y.tick(1));
    }

    private static void promise2Task() {
        SpinKernel x = new SpinKernel();
        x.task(0, 0, 0, 1, 1, 1);
        x.task(15, 3, 1000, 10000, 10000, 1000);
        x.task(1, 1, 0, 10, 1, 1);
        Check.due("a task's work", x.bound(15, 0), 1000);
        Check.index("a task has no requests", x, () -> x.spin(15, 0));
        for (int id : new int[] {-1, 16, LEAST, MOST}) {
            Check.index("task " + id, x, run(() -> x.task(id, 0, 5, 10, 10, 1)));
            Check.index("task " + id + " before wrong numbers", x, run(() -> x.task(id, 9, -5, 0, 0, 0)));
        }
        Check.state("a task that is there", x, run(() -> x.task(0, 1, 7, 10, 10, 1)));
        Check.state("a task that is there before wrong numbers", x, run(() -> x.task(0, 9, 7, 10, 10, 1)));
        Check.argument("a priority of its core", x, run(() -> x.task(2, 0, 0, 10, 10, 1)));
        Check.argument("another priority of its core", x, run(() -> x.task(2, 3, 1000, 10, 10, 1)));
        x.task(2, 2, 0, 10, 10, 1);
        x.take(0);
        x.task(3, 0, 0, 10, 10, 1);
        x.take(3);
        seal(x);
        Check.state("a task when it is sealed", x, run(() -> x.task(4, 0, 5, 10, 10, 1)));
        Check.state("a wrong task when it is sealed", x, run(() -> x.task(4, 0, 5, 10, 11, 1)));
        Check.index("no such task when it is sealed", x, run(() -> x.task(16, 0, 5, 10, 10, 1)));
    }

    private static void promise2TaskNumbers() {
        SpinKernel x = new SpinKernel();
        for (int core : new int[] {-1, 4, LEAST, MOST}) {
            Check.argument("core " + core, x, run(() -> x.task(0, core, 5, 10, 10, 1)));
        }
        for (int priority : new int[] {-1, 1001, LEAST, MOST}) {
            Check.argument("priority " + priority, x, run(() -> x.task(0, 0, priority, 10, 10, 1)));
        }
        for (int distance : new int[] {0, -1, 10001, LEAST, MOST}) {
            Check.argument("distance " + distance, x, run(() -> x.task(0, 0, 5, distance, 1, 1)));
        }
        for (int deadline : new int[] {0, -1, 11, LEAST, MOST}) {
            Check.argument("deadline " + deadline, x, run(() -> x.task(0, 0, 5, 10, deadline, 1)));
        }
        for (int work : new int[] {0, -1, 1001, LEAST, MOST}) {
            Check.argument("work " + work, x, run(() -> x.task(0, 0, 5, 10, 10, work)));
        }
        x.task(0, 0, 5, 10, 10, 1000);
        Check.due("work may be more than the deadline", x.bound(0, 0), 1000);
    }

    private static void promise3Request() {
        SpinKernel x = new SpinKernel();
        x.task(3, 0, 5, 1000, 1000, 4);
        Check.due("first", x.request(3, 0, 0, 1, NONE), 0);
        Check.due("second", x.request(3, 0, 7, 100, NONE), 1);
        Check.due("third", x.request(3, 2, 7, 1, NONE), 2);
        Check.due("fourth", x.request(3, 4, 1, 1, NONE), 3);
        Check.due("fifth", x.request(3, 4, 1, 1, NONE), 4);
        Check.due("sixth", x.request(3, 99, 2, 1, 1), 5);
        Check.state("a seventh", x, () -> x.request(3, 4, 1, 1, NONE));
        Check.state("a seventh before wrong numbers", x, () -> x.request(3, -1, 9, 0, 9));
        Check.due("six requests", x.spin(3, 5), 0);
        Check.index("a seventh request", x, () -> x.spin(3, 6));
        for (int id : new int[] {-1, 2, 16, LEAST, MOST}) {
            Check.index("request of " + id, x, () -> x.request(id, 0, 0, 1, NONE));
            Check.index("wrong request of " + id, x, () -> x.request(id, -1, -1, 0, 9));
        }
        x.task(4, 1, 5, 1000, 1000, 4);
        seal(x);
        Check.state("request when it is sealed", x, () -> x.request(4, 0, 0, 1, NONE));
        Check.state("wrong request when it is sealed", x, () -> x.request(4, 0, 8, 1, NONE));
        Check.index("request of no task when it is sealed", x, () -> x.request(5, 0, 0, 1, NONE));
    }

    private static void promise3RequestInside() {
        SpinKernel x = new SpinKernel();
        x.task(0, 0, 5, 1000, 1000, 4);
        Check.argument("in a request that is not there", x, () -> x.request(0, 0, 0, 1, 0));
        Check.due("outer", x.request(0, 3, 0, 10, NONE), 0);
        Check.due("inside, whole", x.request(0, 0, 1, 10, 0), 1);
        Check.due("inside, last tick", x.request(0, 9, 2, 1, 0), 2);
        Check.argument("inside, too long", x, () -> x.request(0, 9, 3, 2, 0));
        Check.argument("inside, too late", x, () -> x.request(0, 10, 3, 1, 0));
        Check.argument("inside, far too late", x, () -> x.request(0, MOST, 3, 1, 0));
        Check.argument("inside, far too long", x, () -> x.request(0, 1, 3, 100, 0));
        Check.argument("inside, before it", x, () -> x.request(0, -1, 3, 1, 0));
        Check.argument("inside, far before it", x, () -> x.request(0, LEAST, 3, 1, 0));
        for (int in : new int[] {1, 2, 3, 6, -2, LEAST, MOST}) {
            Check.argument("in " + in, x, () -> x.request(0, 0, 3, 1, in));
        }
        Check.due("an outer one behind those inside", x.request(0, 3, 4, 5, NONE), 3);
        Check.argument("an outer one less than the outer one before", x, () -> x.request(0, 2, 4, 5, NONE));
        Check.due("inside an earlier one still", x.request(0, 8, 5, 2, 0), 4);
        Check.due("the AFTER of one inside binds no outer one", x.request(0, 3, 5, 2, NONE), 5);
        Check.due("groups by those inside", x.group(5), 0);
    }

    private static void promise3RequestNumbers() {
        SpinKernel x = new SpinKernel();
        x.task(0, 0, 5, 1000, 1000, 4);
        x.request(0, 1, 0, 5, NONE);
        for (int after : new int[] {0, -1, 5, LEAST, MOST}) {
            Check.argument("after " + after, x, () -> x.request(0, after, 0, 5, NONE));
        }
        for (int lock : new int[] {-1, 8, LEAST, MOST}) {
            Check.argument("lock " + lock, x, () -> x.request(0, 1, lock, 5, NONE));
            Check.argument("lock " + lock + " inside", x, () -> x.request(0, 1, lock, 1, 0));
        }
        for (int length : new int[] {0, -1, 101, LEAST, MOST}) {
            Check.argument("length " + length, x, () -> x.request(0, 1, 0, length, NONE));
            Check.argument("length " + length + " inside", x, () -> x.request(0, 1, 0, length, 0));
        }
        Check.due("a good one behind wrong ones", x.request(0, 1, 0, 5, NONE), 1);
        SpinKernel y = new SpinKernel();
        y.task(0, 0, 5, 1000, 1000, 4);
        Check.argument("after -1 of the first", y, () -> y.request(0, -1, 0, 5, NONE));
        Check.argument("after more than the work of the first", y, () -> y.request(0, 5, 0, 5, NONE));
    }

    private static void promise4Take() {
        SpinKernel x = new SpinKernel();
        x.task(0, 0, 5, 100, 100, 4);
        x.request(0, 1, 3, 5, NONE);
        x.request(0, 0, 1, 5, 0);
        x.task(1, 1, 5, 100, 100, 4);
        x.request(1, 1, 1, 7, NONE);
        Check.due("spin with both", x.spin(1, 0), 5);
        for (int id : new int[] {-1, 2, 16, LEAST, MOST}) {
            Check.index("take " + id, x, run(() -> x.take(id)));
        }
        x.take(0);
        Check.index("what was taken", x, run(() -> x.take(0)));
        Check.index("spin of what was taken", x, () -> x.spin(0, 0));
        Check.due("its groups are gone", x.group(3), 3);
        Check.due("its sections are gone", x.spin(1, 0), 0);
        x.task(0, 1, 6, 100, 100, 1);
        Check.index("laid down again without requests", x, () -> x.spin(0, 0));
        Check.due("the first number again", x.request(0, 0, 2, 9, NONE), 0);
        seal(x);
        Check.state("take when it is sealed", x, run(() -> x.take(0)));
        Check.index("take of none when it is sealed", x, run(() -> x.take(2)));
        arrive(x, 0);
        x.tick(50);
        x.unseal();
        x.take(0);
        Check.index("taken after it was sealed", x, () -> x.jobs(0, 0));
    }

    /** What is laid down in the place of a task that was taken away is as new. */
    private static void promise4NothingStaysOfATask() {
        SpinKernel x = new SpinKernel();
        x.task(0, 0, 1, 1000, 1000, 50);
        x.request(0, 40, 0, 90, NONE);
        x.request(0, 50, 0, 90, NONE);
        x.request(0, 50, 0, 20, NONE);
        x.task(1, 1, 1, 1000, 1000, 5);
        x.request(1, 5, 0, 30, NONE);
        Check.due("spin before", x.spin(0, 1), 30);
        seal(x);
        x.shorten(0, 0, 1);
        arrive(x, 0, 1);
        x.tick(1000);
        x.unseal();
        x.take(0);
        x.task(0, 0, 1, 1000, 1000, 3);
        x.task(2, 0, 2, 1000, 1000, 3);
        Check.due("no blocking by what was there", x.bound(2, 1), 0);
        Check.argument("in a request that was there", x, () -> x.request(0, 0, 1, 1, 0));
        seal(x);
        arrive(x, 0);
        Check.due("it stops at its own work", x.tick(100), 1);
        Check.due("its own work alone", x.jobs(0, 2), 3);
        x.unseal();
        Check.due("its own AFTER", x.request(0, 1, 0, 9, NONE), 0);
        Check.due("inside where an outer one was", x.request(0, 1, 0, 2, 0), 1);
        Check.due("no spin of that one", x.spin(0, 1), 0);
        Check.due("spin of its own", x.spin(0, 0), 30);
        Check.due("nothing spun", x.spun(0, 0), 0);
        seal(x);
        arrive(x, 0);
        x.tick(100);
        Check.due("its own section", x.jobs(0, 2), 12);
    }

    private static void promise5Group() {
        SpinKernel x = new SpinKernel();
        x.task(0, 0, 5, 1000, 1000, 9);
        x.request(0, 0, 6, 9, NONE);
        x.request(0, 0, 7, 9, 0);
        Check.due("the least of two", x.group(7), 6);
        x.task(1, 1, 5, 1000, 1000, 9);
        x.request(1, 0, 4, 9, NONE);
        x.request(1, 0, 2, 9, 0);
        Check.due("two groups", x.group(4), 2);
        Check.due("two groups, the other", x.group(6), 6);
        x.task(2, 1, 6, 1000, 1000, 9);
        x.request(2, 0, 7, 9, NONE);
        x.request(2, 0, 4, 9, 0);
        for (int lock : new int[] {2, 4, 6, 7}) {
            Check.due("and so on, lock " + lock, x.group(lock), 2);
        }
        for (int lock : new int[] {0, 1, 3, 5}) {
            Check.due("alone, lock " + lock, x.group(lock), lock);
        }
        x.request(2, 0, 7, 9, 0);
        Check.due("a lock inside itself", x.group(7), 2);
        x.take(1);
        Check.due("without the one between", x.group(7), 4);
        Check.due("without the one between, the least", x.group(2), 2);
        x.request(0, 0, 1, 9, NONE);
        Check.due("outer ones join nothing", x.group(1), 1);
        for (int lock : new int[] {-1, 8, LEAST, MOST}) {
            Check.index("group " + lock, x, () -> x.group(lock));
        }
    }

    private static void promise6Spin() {
        SpinKernel x = new SpinKernel();
        x.task(0, 0, 5, 1000, 1000, 9);
        x.request(0, 0, 0, 10, NONE);
        x.request(0, 1, 1, 8, 0);
        x.request(0, 0, 0, 50, NONE);
        Check.due("alone", x.spin(0, 0), 0);
        x.task(1, 0, 6, 1000, 1000, 9);
        x.request(1, 0, 0, 90, NONE);
        Check.due("its own core does not count", x.spin(0, 0), 0);
        x.task(2, 1, 5, 1000, 1000, 9);
        x.request(2, 0, 1, 7, NONE);
        x.request(2, 0, 1, 20, NONE);
        x.request(2, 0, 2, 99, NONE);
        x.task(3, 1, 6, 1000, 1000, 9);
        x.request(3, 0, 0, 12, NONE);
        Check.due("the greatest of another core, by the group", x.spin(0, 0), 20);
        x.task(4, 3, 6, 1000, 1000, 9);
        x.request(4, 0, 2, 30, NONE);
        x.request(4, 0, 1, 30, 0);
        Check.due("another core's, by a new group", x.spin(0, 0), 99 + 30);
        Check.due("back: the greatest of the core", x.spin(4, 0), 90 + 99);
        Check.due("0 inside another one", x.spin(0, 1), 0);
        Check.due("0 inside another one, of another task", x.spin(4, 1), 0);
        for (int id : new int[] {-1, 5, 16, LEAST, MOST}) {
            Check.index("spin of task " + id, x, () -> x.spin(id, 0));
        }
        for (int request : new int[] {-1, 3, 6, LEAST, MOST}) {
            Check.index("spin of request " + request, x, () -> x.spin(0, request));
        }
        x.take(4);
        Check.due("and back again", x.spin(0, 2), 20);
        // A section inside another one is held under that one alone.
        x.take(2);
        x.take(3);
        x.task(5, 2, 5, 1000, 1000, 9);
        x.request(5, 0, 6, 40, NONE);
        x.request(5, 0, 0, 40, 0);
        x.request(5, 0, 7, 60, NONE);
        Check.due("only outer ones count", x.spin(0, 0), 40);
    }

    private static void promise7Inflated() {
        SpinKernel x = new SpinKernel();
        x.task(0, 0, 5, 1000, 1000, 9);
        Check.due("work alone", x.bound(0, 0), 9);
        x.request(0, 0, 0, 10, NONE);
        x.request(0, 1, 1, 8, 0);
        x.request(0, 3, 2, 4, NONE);
        Check.due("and sections", x.bound(0, 0), 9 + 10 + 4);
        x.task(1, 1, 5, 1000, 1000, 9);
        x.request(1, 0, 1, 7, NONE);
        x.request(1, 0, 2, 2, NONE);
        Check.due("and spinning", x.bound(0, 0), 9 + 10 + 7 + 4 + 2);
        for (int id : new int[] {-1, 2, 16, LEAST, MOST}) {
            Check.index("bound of task " + id, x, () -> x.bound(id, 0));
            Check.index("wrong bound of task " + id, x, () -> x.bound(id, 3));
        }
        for (int what : new int[] {-1, 3, LEAST, MOST}) {
            Check.argument("bound " + what, x, () -> x.bound(0, what));
        }
        seal(x);
        Check.due("sealed it tells the same", x.bound(0, 0), 32);
        x.shorten(0, 0, 1);
        Check.due("and what is told of a job changes nothing", x.bound(0, 0), 32);
    }

    private static void promise7Blocking() {
        SpinKernel x = new SpinKernel();
        x.task(0, 0, 5, 1000, 1000, 9);
        x.request(0, 0, 0, 30, NONE);
        Check.due("its own sections do not block", x.bound(0, 1), 0);
        x.task(1, 0, 4, 1000, 1000, 500);
        Check.due("work alone does not block", x.bound(0, 1), 0);
        x.request(1, 0, 1, 1, NONE);
        Check.due("a section of one tick", x.bound(0, 1), 0);
        x.request(1, 0, 2, 10, NONE);
        x.request(1, 0, 3, 6, NONE);
        Check.due("the greatest section, less 1", x.bound(0, 1), 9);
        x.task(2, 1, 4, 1000, 1000, 5);
        x.request(2, 0, 3, 5, NONE);
        Check.due("with its spinning", x.bound(0, 1), 6 + 5 - 1);
        x.task(3, 0, 6, 1000, 1000, 5);
        x.request(3, 0, 7, 40, NONE);
        Check.due("more priority does not block", x.bound(0, 1), 10);
        Check.due("of the greatest priority", x.bound(3, 1), 30 - 1);
        Check.due("of the least priority", x.bound(1, 1), 0);
        Check.due("on another core", x.bound(2, 1), 0);
    }

    private static void promise7Response() {
        SpinKernel x = new SpinKernel();
        x.task(0, 0, 9, 4, 4, 1);
        x.task(1, 0, 8, 6, 6, 2);
        x.task(2, 0, 7, 20, 12, 3);
        Check.due("the greatest priority", x.bound(0, 2), 1);
        Check.due("the second", x.bound(1, 2), 3);
        // 3 + 1 + 2 = 6, then 3 + 2 + 2 = 7, then 3 + 2 + 4 = 9, then 3 + 3 + 4 = 10, which stays.
        Check.due("by rounds", x.bound(2, 2), 10);
        x.take(2);
        x.task(2, 0, 7, 20, 10, 3);
        Check.due("the deadline just met", x.bound(2, 2), 10);
        x.take(2);
        x.task(2, 0, 7, 20, 9, 3);
        Check.due("more than the deadline", x.bound(2, 2), NONE);
        x.take(2);
        x.task(3, 0, 1, 10000, 10000, 1);
        x.request(3, 0, 0, 3, NONE);
        Check.due("with blocking", x.bound(1, 2), 2 + 2 + 2);
        Check.due("just at a distance's end", x.bound(0, 2), 3);
        SpinKernel y = new SpinKernel();
        y.task(0, 0, 9, 5, 5, 5);
        y.task(1, 0, 8, 10000, 10000, 1);
        Check.due("never: all is taken", y.bound(1, 2), NONE);
        Check.due("never, for the other: met", y.bound(0, 2), 5);
        y.task(2, 1, 9, 1, 1, 1);
        y.task(3, 1, 8, 10000, 10000, 1);
        Check.due("never: all is taken by distance 1", y.bound(3, 2), NONE);
        SpinKernel z = new SpinKernel();
        z.task(0, 0, 9, 2, 2, 1);
        z.task(1, 0, 8, 10000, 10000, 1000);
        Check.due("many rounds", z.bound(1, 2), 2000);
    }

    private static void promise8Seal() {
        SpinKernel x = new SpinKernel();
        x.task(7, 0, 9, 5, 5, 5);
        x.task(4, 0, 8, 100, 100, 1);
        x.task(9, 1, 9, 5, 5, 6);
        x.task(2, 1, 8, 100, 5, 5);
        Check.due("the least that is late", x.seal(), 2);
        x.take(2);
        Check.due("the next one", x.seal(), 4);
        Check.state("it was not sealed", x, () -> x.tick(1));
        x.take(4);
        Check.due("the last one", x.seal(), 9);
        x.take(9);
        Check.due("just met", x.seal(), NONE);
        Check.state("sealed already", x, x::seal);
        arrive(x, 7);
        Check.state("sealed already, with a job", x, x::seal);
        Check.due("the job goes on", x.tick(5), 1);
        SpinKernel y = new SpinKernel();
        y.task(0, 0, 9, 5, 5, 6);
        y.task(15, 1, 9, 5, 5, 6);
        Check.due("the first of all", y.seal(), 0);
        y.take(0);
        Check.due("the last of all", y.seal(), 15);
    }

    private static void promise9Unseal() {
        SpinKernel x = new SpinKernel();
        x.task(0, 0, 5, 50, 50, 2);
        x.request(0, 1, 0, 4, NONE);
        x.task(1, 1, 5, 50, 50, 2);
        x.request(1, 1, 0, 4, NONE);
        Check.state("not sealed", x, run(x::unseal));
        seal(x);
        arrive(x, 0, 1);
        Check.state("jobs that have just come", x, run(x::unseal));
        x.tick(9);
        Check.state("a job is open", x, run(x::unseal));
        x.shorten(0, 0, 1);
        Check.due("the last job", x.tick(1), 1);
        Check.due("it was recorded", x.jobs(1, 1), 10);
        Check.due("spinning was recorded", x.spun(1, 0), 4);
        cores("it was recorded", x, 1, 1, SpinKernel.PLAIN);
        x.unseal();
        for (int what = 0; what < 4; what++) {
            Check.due("gone: jobs " + what, x.jobs(0, what) + x.jobs(1, what), 0);
        }
        Check.due("gone: spun", x.spun(1, 0), 0);
        cores("gone", x, 0, NONE, SpinKernel.IDLE);
        cores("gone", x, 1, NONE, SpinKernel.IDLE);
        Check.state("not sealed any more", x, () -> x.tick(1));
        Check.state("not sealed any more, again", x, run(x::unseal));
        seal(x);
        arrive(x, 0);
        Check.due("gone: what was told of the next job", x.tick(5), 0);
        Check.due("its section is whole", x.tick(1), 1);
        Check.due("time starts anew", x.jobs(0, 2), 6);
    }

    private static void promise10Arrive() {
        SpinKernel x = new SpinKernel();
        x.task(0, 0, 5, 10, 9, 3);
        Check.state("not sealed", x, () -> x.arrive(0) ? 1 : 0);
        for (int id : new int[] {-1, 1, 16, LEAST, MOST}) {
            Check.index("not sealed, of " + id, x, () -> x.arrive(id) ? 1 : 0);
        }
        seal(x);
        Check.index("of none", x, () -> x.arrive(1) ? 1 : 0);
        x.tick(3);
        arrive(x, 0);
        Check.due("it is open", x.jobs(0, 3), 1);
        Check.due("at once again", x.arrive(0) ? 1 : 0, 0);
        x.tick(9);
        Check.due("one tick less than the distance", x.arrive(0) ? 1 : 0, 0);
        Check.due("none came", x.jobs(0, 3), 0);
        x.tick(1);
        arrive(x, 0);
        x.tick(4);
        Check.due("two ended", x.jobs(0, 0), 2);
        x.unseal();
        seal(x);
        arrive(x, 0);
        Check.due("it came at once", x.jobs(0, 3), 1);
        SpinKernel y = new SpinKernel();
        y.task(0, 0, 5, 1, 1, 1);
        seal(y);
        for (int i = 0; i < 5; i++) {
            arrive(y, 0);
            Check.due("distance 1", y.tick(1), 1);
        }
        Check.due("distance 1, all ended", y.jobs(0, 0), 5);
    }

    private static void promise11Shorten() {
        SpinKernel x = new SpinKernel();
        x.task(0, 0, 5, 50, 50, 2);
        x.request(0, 1, 0, 8, NONE);
        x.request(0, 0, 1, 3, 0);
        Check.state("not sealed", x, run(() -> x.shorten(0, 0, 1)));
        Check.state("not sealed, wrong", x, run(() -> x.shorten(0, 1, 9)));
        for (int id : new int[] {-1, 1, 16, LEAST, MOST}) {
            Check.index("of task " + id, x, run(() -> x.shorten(id, 0, 1)));
        }
        for (int request : new int[] {-1, 2, 6, LEAST, MOST}) {
            Check.index("of request " + request, x, run(() -> x.shorten(0, request, 1)));
        }
        seal(x);
        for (int request : new int[] {-1, 2, 6, LEAST, MOST}) {
            Check.index("sealed, of request " + request, x, run(() -> x.shorten(0, request, 0)));
        }
        Check.argument("not outer", x, run(() -> x.shorten(0, 1, 1)));
        for (int length : new int[] {0, -1, 9, LEAST, MOST}) {
            Check.argument("length " + length, x, run(() -> x.shorten(0, 0, length)));
        }
        arrive(x, 0);
        Check.due("wrong ones changed nothing", x.tick(9), 0);
        Check.due("wrong ones changed nothing: the end", x.tick(1), 1);
        x.tick(40);
        x.shorten(0, 0, 8);
        arrive(x, 0);
        Check.due("as long as LENGTH", x.tick(9), 0);
        Check.due("as long as LENGTH: the end", x.tick(1), 1);
    }

    private static void promise11ShortenOnceOnly() {
        SpinKernel x = new SpinKernel();
        x.task(0, 0, 5, 20, 20, 2);
        x.request(0, 0, 0, 8, NONE);
        x.request(0, 2, 1, 6, NONE);
        seal(x);
        x.shorten(0, 0, 1);
        x.shorten(0, 0, 3);
        arrive(x, 0);
        x.shorten(0, 1, 2);
        Check.due("not come yet again", x.arrive(0) ? 1 : 0, 0);
        Check.due("told twice, not in the job that is there", x.tick(10), 0);
        Check.due("3 and 2 and 6", x.tick(1), 1);
        x.tick(9);
        arrive(x, 0);
        x.tick(20);
        Check.due("8 and 2 and 2", x.jobs(0, 2), 12);
        arrive(x, 0);
        x.tick(20);
        Check.due("8 and 2 and 6", x.jobs(0, 2), 16);
        x.shorten(0, 1, 1);
        x.shorten(0, 0, 1);
        arrive(x, 0);
        x.tick(20);
        Check.due("1 and 2 and 1", x.jobs(0, 2), 4);
        Check.due("the bound stays", x.bound(0, 2), 16);
    }

    private static void promise12Tick() {
        SpinKernel x = new SpinKernel();
        x.task(0, 0, 5, 100, 100, 3);
        x.task(1, 1, 5, 100, 100, 3);
        x.task(2, 2, 5, 100, 100, 4);
        Check.state("not sealed", x, () -> x.tick(1));
        Check.state("not sealed before a wrong number", x, () -> x.tick(0));
        seal(x);
        arrive(x, 0, 1, 2);
        for (int n : new int[] {0, -1, 100001, LEAST, MOST}) {
            Check.argument("tick " + n, x, () -> x.tick(n));
        }
        Check.due("no end yet", x.tick(2), 0);
        Check.due("two at once", x.tick(1), 2);
        Check.due("the third", x.tick(100000), 1);
        Check.due("none any more", x.tick(100000), 0);
        arrive(x, 0);
        Check.due("it goes on", x.tick(3), 1);
        Check.due("by many ticks the same", x.jobs(2, 2), 4);
    }

    private static void promise12Preemption() {
        SpinKernel x = new SpinKernel();
        x.task(0, 0, 1, 100, 100, 5);
        x.task(1, 0, 2, 100, 100, 2);
        x.task(2, 0, 3, 100, 100, 2);
        seal(x);
        arrive(x, 0);
        x.tick(1);
        arrive(x, 1);
        x.tick(1);
        cores("more priority", x, 0, 1, SpinKernel.PLAIN);
        arrive(x, 2);
        x.tick(1);
        cores("still more", x, 0, 2, SpinKernel.PLAIN);
        Check.due("ends", x.tick(1), 1);
        Check.due("ends, the next", x.tick(1), 1);
        cores("in the tick of its end", x, 0, 1, SpinKernel.PLAIN);
        Check.due("ends, the last", x.tick(4), 1);
        Check.due("times", x.jobs(2, 2), 2);
        Check.due("times, the next", x.jobs(1, 2), 4);
        Check.due("times, the last", x.jobs(0, 2), 9);
    }

    private static void promise12NoPreemptionInSections() {
        SpinKernel x = new SpinKernel();
        x.task(0, 0, 1, 100, 100, 2);
        x.request(0, 1, 0, 3, NONE);
        x.task(1, 0, 2, 100, 100, 2);
        x.task(2, 1, 2, 100, 100, 1);
        x.request(2, 0, 0, 4, NONE);
        seal(x);
        arrive(x, 0, 2);
        x.tick(2);
        cores("asks in the second tick", x, 0, 0, SpinKernel.SPINS);
        arrive(x, 1);
        x.tick(2);
        cores("stays while it spins", x, 0, 0, SpinKernel.SPINS);
        x.tick(3);
        cores("stays while it holds", x, 0, 0, SpinKernel.HOLDS);
        rowIs("and leaves", x, 0);
        x.tick(1);
        cores("then the other", x, 0, 1, SpinKernel.PLAIN);
        Check.due("both end", x.tick(2), 2);
        Check.due("five ticks of waiting, two of work", x.jobs(1, 2), 7);
        // A job that has to ask is no different from one that works: more priority goes first.
        x.tick(200);
        arrive(x, 0);
        x.tick(1);
        arrive(x, 1);
        x.tick(1);
        cores("not asked yet", x, 0, 1, SpinKernel.PLAIN);
        rowIs("not asked yet", x, 0);
    }

    private static void promise12RequestsAtOneAfter() {
        SpinKernel x = new SpinKernel();
        x.task(0, 0, 1, 100, 100, 1);
        x.request(0, 0, 0, 2, NONE);
        x.request(0, 0, 1, 1, 0);
        x.request(0, 0, 2, 1, NONE);
        x.request(0, 1, 2, 2, NONE);
        x.task(1, 0, 2, 100, 100, 1);
        seal(x);
        arrive(x, 0);
        x.tick(1);
        cores("the first", x, 0, 0, SpinKernel.HOLDS);
        rowIs("the first, its row", x, 1, 0);
        arrive(x, 1);
        x.tick(1);
        rowIs("the first is left", x, 0);
        x.tick(1);
        cores("between two sections", x, 0, 1, SpinKernel.PLAIN);
        x.tick(1);
        cores("the second", x, 0, 0, SpinKernel.HOLDS);
        rowIs("the second is left", x, 2);
        x.tick(1);
        cores("work", x, 0, 0, SpinKernel.PLAIN);
        Check.due("not ended with its work", x.jobs(0, 3), 1);
        Check.due("the third", x.tick(1), 0);
        rowIs("the third is held", x, 2, 0);
        Check.due("ends with its section", x.tick(1), 1);
        Check.due("all in all", x.jobs(0, 2), 7);
    }

    private static void promise12SixRequests() {
        SpinKernel x = new SpinKernel();
        x.task(0, 0, 1, 200, 200, 3);
        for (int i = 0; i < 6; i++) {
            x.request(0, i / 2, i, 2 + i, NONE);
        }
        x.task(1, 0, 2, 200, 200, 3);
        x.task(2, 1, 2, 200, 200, 3);
        for (int i = 0; i < 3; i++) {
            x.request(2, i, 2 * i, 10, NONE);
            x.request(2, i, 2 * i + 1, 1, 2 * i);
        }
        Check.due("blocking by the sixth", x.bound(1, 1), 7 + 10 - 1);
        seal(x);
        x.shorten(0, 5, 1);
        arrive(x, 0);
        Check.due("all six: not ended", x.tick(3 + 2 + 3 + 4 + 5 + 6), 0);
        Check.due("all six: ended", x.tick(1), 1);
        Check.due("times", x.jobs(0, 1), 24);
        x.tick(200);
        arrive(x, 2);
        x.tick(1);
        arrive(x, 0);
        x.tick(100);
        Check.due("the first spun", x.spun(0, 0), 9);
        Check.due("the second did not", x.spun(0, 1), 0);
        x.unseal();
        Check.due("all is gone", x.spun(0, 0) + x.jobs(0, 0), 0);
    }

    private static void promise13Core() {
        SpinKernel x = new SpinKernel();
        x.task(6, 2, 1, 100, 100, 2);
        x.request(6, 1, 0, 1, NONE);
        x.task(7, 3, 1, 100, 100, 2);
        x.request(7, 1, 0, 1, NONE);
        for (int core : new int[] {-1, 4, LEAST, MOST}) {
            Check.index("core " + core, x, () -> x.core(core, 0));
            Check.index("core " + core + " before a wrong what", x, () -> x.core(core, 2));
        }
        for (int what : new int[] {-1, 2, LEAST, MOST}) {
            Check.argument("what " + what, x, () -> x.core(0, what));
        }
        seal(x);
        arrive(x, 6, 7);
        cores("before a tick", x, 2, NONE, SpinKernel.IDLE);
        x.tick(1);
        cores("first tick", x, 0, NONE, SpinKernel.IDLE);
        cores("first tick", x, 2, 6, SpinKernel.PLAIN);
        cores("first tick", x, 3, 7, SpinKernel.PLAIN);
        x.tick(1);
        cores("second tick, its section's last", x, 2, 6, SpinKernel.HOLDS);
        cores("second tick", x, 3, 7, SpinKernel.SPINS);
        x.tick(1);
        cores("third tick", x, 2, 6, SpinKernel.PLAIN);
        cores("third tick", x, 3, 7, SpinKernel.HOLDS);
        x.tick(1);
        cores("fourth tick", x, 2, NONE, SpinKernel.IDLE);
        cores("fourth tick, the job's last", x, 3, 7, SpinKernel.PLAIN);
        x.tick(1);
        cores("fifth tick", x, 3, NONE, SpinKernel.IDLE);
    }

    private static void promise14Row() {
        SpinKernel x = new SpinKernel();
        for (int core = 0; core < 4; core++) {
            x.task(core, core, 1, 1000, 1000, 2);
            x.request(core, core == 2 ? 0 : 1, 5, 3 + core, NONE);
        }
        for (int lock : new int[] {-1, 8, LEAST, MOST}) {
            Check.index("row " + lock, x, () -> x.row(lock, 0));
        }
        seal(x);
        arrive(x, 0, 1, 2, 3);
        rowIs("none asked", x, 5);
        x.tick(1);
        rowIs("one holds", x, 5, 2);
        x.tick(1);
        rowIs("in the order of the cores", x, 5, 2, 0, 1, 3);
        rowIs("other locks", x, 4);
        for (int i : new int[] {-1, 4, LEAST, MOST}) {
            Check.due("place " + i, x.row(5, i), NONE);
        }
        Check.due("none ends by spinning or holding on", x.tick(2), 0);
        rowIs("still held", x, 5, 2, 0, 1, 3);
        Check.due("none ends by leaving with work ahead", x.tick(1), 0);
        rowIs("left in the section's last tick", x, 5, 0, 1, 3);
        cores("the next one still spun", x, 0, 0, SpinKernel.SPINS);
        x.tick(1);
        cores("the next one holds without pause", x, 0, 0, SpinKernel.HOLDS);
        x.tick(2);
        rowIs("two", x, 5, 1, 3);
        x.tick(4);
        rowIs("one", x, 5, 3);
        x.tick(6);
        rowIs("none", x, 5);
    }

    private static void promise14RowOfAGroup() {
        SpinKernel x = new SpinKernel();
        x.task(0, 0, 1, 1000, 1000, 1);
        x.request(0, 0, 3, 3, NONE);
        x.request(0, 0, 6, 3, 0);
        x.task(1, 1, 1, 1000, 1000, 1);
        x.request(1, 0, 6, 3, NONE);
        x.task(2, 2, 1, 1000, 1000, 1);
        x.request(2, 0, 2, 3, NONE);
        seal(x);
        arrive(x, 1, 2);
        x.tick(1);
        arrive(x, 0);
        x.tick(1);
        rowIs("a group by its least lock", x, 3, 1, 0);
        rowIs("a group by another lock", x, 6, 1, 0);
        rowIs("another group", x, 2, 2);
        x.tick(50);
        x.unseal();
        x.take(0);
        x.task(0, 0, 1, 1000, 1000, 1);
        x.request(0, 0, 3, 3, NONE);
        seal(x);
        arrive(x, 0, 1);
        x.tick(1);
        rowIs("no group any more", x, 3, 0);
        rowIs("no group any more, the other lock", x, 6, 1);
    }

    private static void promise15Jobs() {
        SpinKernel x = new SpinKernel();
        x.task(0, 0, 1, 20, 20, 3);
        x.task(1, 0, 2, 20, 20, 2);
        for (int id : new int[] {-1, 2, 16, LEAST, MOST}) {
            Check.index("jobs of " + id, x, () -> x.jobs(id, 0));
            Check.index("wrong jobs of " + id, x, () -> x.jobs(id, 4));
        }
        for (int what : new int[] {-1, 4, LEAST, MOST}) {
            Check.argument("jobs " + what, x, () -> x.jobs(0, what));
        }
        seal(x);
        for (int what = 0; what < 4; what++) {
            Check.due("nothing yet, " + what, x.jobs(0, what), 0);
        }
        arrive(x, 0);
        Check.due("open", x.jobs(0, 3), 1);
        Check.due("the other is not", x.jobs(1, 3), 0);
        x.tick(1);
        arrive(x, 1);
        x.tick(10);
        Check.due("ended", x.jobs(0, 0), 1);
        Check.due("not open", x.jobs(0, 3), 0);
        Check.due("greatest", x.jobs(0, 1), 5);
        Check.due("latest", x.jobs(0, 2), 5);
        x.tick(10);
        arrive(x, 0);
        x.tick(2);
        Check.due("open: the latest that ended", x.jobs(0, 2), 5);
        x.tick(1);
        Check.due("ended, two", x.jobs(0, 0), 2);
        Check.due("greatest of two", x.jobs(0, 1), 5);
        Check.due("latest of two", x.jobs(0, 2), 3);
        Check.due("the other one", x.jobs(1, 2), 2);
    }

    private static void promise16Spun() {
        SpinKernel x = new SpinKernel();
        x.task(0, 0, 1, 50, 50, 2);
        x.request(0, 0, 0, 9, NONE);
        x.request(0, 0, 1, 9, 0);
        x.task(1, 1, 1, 50, 50, 2);
        x.request(1, 0, 0, 2, NONE);
        x.request(1, 2, 1, 2, NONE);
        seal(x);
        arrive(x, 0, 1);
        x.tick(4);
        Check.due("while it spins", x.spun(1, 0), 4);
        x.tick(40);
        Check.due("in all", x.spun(1, 0), 9);
        Check.due("the first did not", x.spun(0, 0), 0);
        Check.due("one inside never does", x.spun(0, 1), 0);
        Check.due("each request by itself", x.spun(1, 1), 0);
        x.tick(6);
        x.shorten(0, 0, 3);
        arrive(x, 0, 1);
        x.tick(50);
        Check.due("the greatest, not the latest, not the sum", x.spun(1, 0), 9);
        for (int id : new int[] {-1, 2, 16, LEAST, MOST}) {
            Check.index("spun of task " + id, x, () -> x.spun(id, 0));
        }
        for (int request : new int[] {-1, 2, 6, LEAST, MOST}) {
            Check.index("spun of request " + request, x, () -> x.spun(0, request));
        }
        x.unseal();
        Check.due("gone", x.spun(1, 0), 0);
        promise16SpunBySeveralRequests();
    }

    private static void promise16SpunBySeveralRequests() {
        SpinKernel x = new SpinKernel();
        x.task(0, 0, 1, 100, 100, 10);
        x.request(0, 0, 0, 6, NONE);
        x.request(0, 3, 1, 6, NONE);
        x.task(1, 1, 1, 100, 100, 2);
        x.request(1, 1, 0, 2, NONE);
        x.request(1, 2, 1, 2, NONE);
        seal(x);
        arrive(x, 0, 1);
        // Core 0 holds lock 0 in ticks 1 .. 6 and lock 1 in 10 .. 15; core 1 asks in ticks 2 and 10.
        x.tick(10);
        Check.due("the first of two", x.spun(1, 0), 5);
        Check.due("the second of two starts from nothing", x.spun(1, 1), 1);
        x.tick(40);
        Check.due("the second of two", x.spun(1, 1), 6);
        Check.due("the first of two stays", x.spun(1, 0), 5);
    }

    /** Under the test no job is late: jobs that end just at their deadline are the edge. */
    private static void promise17Late() {
        SpinKernel x = new SpinKernel();
        x.task(0, 0, 2, 7, 5, 1);
        x.request(0, 1, 0, 2, NONE);
        x.task(1, 0, 1, 50, 20, 1);
        x.request(1, 0, 1, 3, NONE);
        x.task(2, 1, 2, 9, 7, 1);
        Check.due("late, not sealed", x.late(), 0);
        seal(x);
        Check.due("its bound is its deadline", x.bound(0, 2), 5);
        arrive(x, 1);
        x.tick(1);
        arrive(x, 0);
        x.tick(4);
        Check.due("open shortly before its deadline", x.late(), 0);
        Check.due("it ends at its deadline", x.tick(1), 1);
        Check.due("its response time", x.jobs(0, 1), 5);
        Check.due("ended at its deadline", x.late(), 0);
        arrive(x, 2);
        x.tick(100000);
        Check.due("long since", x.late(), 0);
        x.unseal();
        Check.due("not sealed any more", x.late(), 0);
    }
}
