import java.util.ArrayList;
import java.util.List;

/**
 * A refused call throws what is named first and changes nothing that later calls show: at several
 * points of one life, refused calls of all kinds are made, each on one of two twins, which then live
 * on alike and must answer alike to the end. Each twin gets fewer than 512 calls.
 */
public final class RefusalTest {
    private static final int NONE = SpinKernel.NONE;
    private static final int LEAST = Integer.MIN_VALUE, MOST = Integer.MAX_VALUE;
    private static final Class<? extends RuntimeException> INDEX = IndexOutOfBoundsException.class;
    private static final Class<? extends RuntimeException> STATE = IllegalStateException.class;
    private static final Class<? extends RuntimeException> ARGUMENT = IllegalArgumentException.class;

    private interface Step {
        long on(SpinKernel x);
    }

    private interface Deed {
        void on(SpinKernel x);
    }

    /** A call and what it throws. */
    private record Refused(String name, Class<? extends RuntimeException> due, Step call) {
    }

    /** Where in the life refused calls are made: before the step of this number. */
    private record Point(String name, int step, List<Refused> calls) {
    }

    private static final List<Step> LIFE = new ArrayList<>();
    private static final List<Point> POINTS = new ArrayList<>();

    public static void main(String[] args) {
        layDownTheLife();
        for (Point point : POINTS) {
            for (Refused refused : point.calls()) {
                compareTwins(point, refused);
            }
        }
        Check.finish();
    }

    private static void compareTwins(Point point, Refused refused) {
        String what = point.name() + ": " + refused.name();
        SpinKernel plain = new SpinKernel();
        SpinKernel tried = new SpinKernel();
        for (int i = 0; i < LIFE.size(); i++) {
            Step step = LIFE.get(i);
            if (i == point.step()) {
                String got = Check.outcome(() -> refused.call().on(tried));
                Check.due(what, got, Check.THROWS + refused.due().getSimpleName());
            }
            String due = Check.outcome(() -> step.on(plain));
            Check.due(what + ", step " + i + " then", Check.outcome(() -> step.on(tried)), due);
        }
        Check.due(what + ", in the end", Check.pictureOf(tried), Check.pictureOf(plain));
    }

    private static void step(Step step) {
        LIFE.add(step);
    }

    private static void deed(Deed deed) {
        LIFE.add(asStep(deed));
    }

    private static Step asStep(Deed deed) {
        return x -> {
            deed.on(x);
            return 0;
        };
    }

    /** A step on which the rest of the life depends. */
    private static void must(String what, long due, Step step) {
        step(x -> {
            long got = step.on(x);
            Check.due(what, got, due);
            return got;
        });
    }

    private static void come(int... ids) {
        for (int id : ids) {
            must("a job of " + id + " comes", 1, x -> x.arrive(id) ? 1 : 0);
        }
    }

    private static void point(String name, List<Refused> calls) {
        POINTS.add(new Point(name, LIFE.size(), calls));
    }

    private static void layDownTheLife() {
        point("new", refusedWhenNew());
        layDownTasks();
        point("laid down", refusedWhenLaidDown());
        must("task 4 may be late", 4, x -> x.seal());
        point("not sealed, since a task may be late", refusedWhenLaidDown());
        deed(x -> x.take(4));
        must("all fits", NONE, x -> x.seal());
        point("sealed", refusedWhenSealed(false));
        deed(x -> x.shorten(0, 0, 3));
        come(1, 2);
        point("jobs have come, one is told to be shorter", refusedWhenSealed(true));
        step(x -> x.tick(2));
        come(0, 3);
        point("one holds, one spins", refusedWhenSealed(true));
        watch();
        step(x -> x.tick(3));
        point("later", refusedWhenSealed(true));
        watch();
        step(x -> x.tick(4));
        watch();
        step(x -> x.tick(200));
        point("all have ended", refusedWhenSealed(false));
        watch();
        deed(x -> x.shorten(1, 0, 2));
        point("the next one is told to be shorter", refusedWhenSealed(false));
        come(0, 1, 2, 3);
        step(x -> x.tick(7));
        watch();
        step(x -> x.tick(200));
        deed(x -> x.unseal());
        point("unsealed", refusedWhenLaidDownAgain());
        step(x -> x.request(3, 2, 7, 1, NONE));
        deed(x -> x.task(5, 3, 8, 200, 200, 2));
        step(x -> x.request(5, 1, 2, 4, NONE));
        must("all fits", NONE, x -> x.seal());
        come(0, 1, 2, 3, 5);
        step(x -> x.tick(9));
    }

    /** Task 4 is one that may be late; task 1 has six requests. */
    private static void layDownTasks() {
        deed(x -> x.task(0, 0, 5, 200, 200, 4));
        step(x -> x.request(0, 1, 2, 6, NONE));
        step(x -> x.request(0, 1, 3, 5, 0));
        deed(x -> x.task(1, 1, 5, 200, 200, 3));
        for (int i = 0; i < 6; i++) {
            int after = i / 2;
            step(x -> x.request(1, after, 3, 2 + after, NONE));
        }
        deed(x -> x.task(2, 0, 4, 200, 200, 6));
        step(x -> x.request(2, 0, 2, 8, NONE));
        deed(x -> x.task(3, 1, 4, 200, 200, 2));
        deed(x -> x.task(4, 2, 4, 80, 1, 2));
    }

    private static void watch() {
        for (int core = 0; core < 3; core++) {
            int c = core;
            step(x -> x.core(c, 0) * 10 + x.core(c, 1));
            step(x -> x.row(2, c));
            step(x -> x.spun(c, 0));
        }
    }

    private static List<Refused> refusedWhenNew() {
        List<Refused> calls = new ArrayList<>();
        addNoSuch(calls);
        addWrongTasks(calls, ARGUMENT);
        addOnlySealed(calls, false);
        addWrongWhats(calls, false);
        return calls;
    }

    private static List<Refused> refusedWhenLaidDown() {
        List<Refused> calls = refusedWhenLaidDownAgain();
        calls.add(new Refused("task 4 again", STATE, asStep(x -> x.task(4, 2, 5, 80, 80, 1))));
        calls.add(new Refused("its priority", ARGUMENT, asStep(x -> x.task(6, 2, 4, 80, 80, 1))));
        return calls;
    }

    private static List<Refused> refusedWhenLaidDownAgain() {
        List<Refused> calls = new ArrayList<>();
        addNoSuch(calls);
        addNoSuchRequest(calls);
        addWrongTasks(calls, ARGUMENT);
        addTasksThatAreThere(calls, ARGUMENT);
        addWrongRequests(calls, ARGUMENT);
        addOnlySealed(calls, true);
        addWrongWhats(calls, true);
        return calls;
    }

    private static List<Refused> refusedWhenSealed(boolean open) {
        List<Refused> calls = new ArrayList<>();
        addNoSuch(calls);
        addNoSuchRequest(calls);
        addWrongTasks(calls, STATE);
        addTasksThatAreThere(calls, STATE);
        addWrongRequests(calls, STATE);
        addOnlyNotSealed(calls);
        addWrongShortening(calls);
        addWrongWhats(calls, true);
        if (open) {
            calls.add(new Refused("unseal with an open job", STATE, asStep(x -> x.unseal())));
        }
        for (int n : new int[] {0, -1, 100001, LEAST, MOST}) {
            calls.add(new Refused("tick " + n, ARGUMENT, x -> x.tick(n)));
        }
        return calls;
    }

    private static void addNoSuch(List<Refused> calls) {
        for (int id : new int[] {-1, 16, LEAST, MOST}) {
            calls.add(new Refused("task " + id, INDEX, asStep(x -> x.task(id, 3, 9, 50, 50, 1))));
        }
        for (int id : new int[] {-1, 6, 15, 16, LEAST, MOST}) {
            calls.add(new Refused("request of " + id, INDEX, x -> x.request(id, 0, 1, 1, NONE)));
            calls.add(new Refused("take " + id, INDEX, asStep(x -> x.take(id))));
            calls.add(new Refused("spin of " + id, INDEX, x -> x.spin(id, 0)));
            calls.add(new Refused("bound of " + id, INDEX, x -> x.bound(id, 2)));
            calls.add(new Refused("arrive " + id, INDEX, x -> x.arrive(id) ? 1 : 0));
            calls.add(new Refused("shorten of " + id, INDEX, asStep(x -> x.shorten(id, 0, 1))));
            calls.add(new Refused("jobs of " + id, INDEX, x -> x.jobs(id, 0)));
            calls.add(new Refused("spun of " + id, INDEX, x -> x.spun(id, 0)));
        }
        for (int lock : new int[] {-1, 8, LEAST, MOST}) {
            calls.add(new Refused("group " + lock, INDEX, x -> x.group(lock)));
            calls.add(new Refused("row " + lock, INDEX, x -> x.row(lock, 0)));
        }
        for (int core : new int[] {-1, 4, LEAST, MOST}) {
            calls.add(new Refused("core " + core, INDEX, x -> x.core(core, 0)));
        }
    }

    private static void addNoSuchRequest(List<Refused> calls) {
        for (int request : new int[] {-1, 2, 6, LEAST, MOST}) {
            calls.add(new Refused("spin of request " + request, INDEX, x -> x.spin(0, request)));
            calls.add(new Refused("spun of request " + request, INDEX, x -> x.spun(0, request)));
            calls.add(new Refused("shorten of request " + request, INDEX,
                    asStep(x -> x.shorten(0, request, 1))));
        }
    }

    private static void addWrongTasks(List<Refused> calls, Class<? extends RuntimeException> due) {
        int[][] wrong = {
            {-1, 9, 50, 50, 1}, {4, 9, 50, 50, 1}, {3, -1, 50, 50, 1}, {3, 1001, 50, 50, 1},
            {3, 9, 0, 1, 1}, {3, 9, 10001, 50, 1}, {3, 9, 50, 0, 1}, {3, 9, 50, 51, 1},
            {3, 9, 50, 50, 0}, {3, 9, 50, 50, 1001}, {MOST, MOST, MOST, MOST, MOST},
            {LEAST, LEAST, LEAST, LEAST, LEAST},
        };
        for (int[] n : wrong) {
            calls.add(new Refused("task with " + List.of(n[0], n[1], n[2], n[3], n[4]), due,
                    asStep(x -> x.task(6, n[0], n[1], n[2], n[3], n[4]))));
        }
    }

    private static void addTasksThatAreThere(List<Refused> calls, Class<? extends RuntimeException> due) {
        calls.add(new Refused("task 0 again", STATE, asStep(x -> x.task(0, 3, 9, 50, 50, 1))));
        calls.add(new Refused("task 0 again, wrong", STATE, asStep(x -> x.task(0, 4, 9, 50, 51, 0))));
        calls.add(new Refused("a priority that is taken", due, asStep(x -> x.task(6, 0, 5, 50, 50, 1))));
    }

    private static void addWrongRequests(List<Refused> calls, Class<? extends RuntimeException> due) {
        int[][] wrong = {
            {0, 1, 3, NONE}, {-1, 1, 3, NONE}, {5, 1, 3, NONE}, {2, -1, 3, NONE}, {2, 8, 3, NONE},
            {2, 1, 0, NONE}, {2, 1, 101, NONE}, {2, 1, 3, -2}, {2, 1, 3, 1}, {2, 1, 3, 2}, {2, 1, 3, 6},
            {-1, 1, 3, 0}, {4, 1, 3, 0}, {0, 1, 7, 0}, {0, 8, 1, 0}, {0, 1, 0, 0}, {MOST, 1, 1, 0},
        };
        for (int[] n : wrong) {
            calls.add(new Refused("request with " + List.of(n[0], n[1], n[2], n[3]), due,
                    x -> x.request(0, n[0], n[1], n[2], n[3])));
        }
        calls.add(new Refused("a seventh request", STATE, x -> x.request(1, 3, 1, 9, NONE)));
        calls.add(new Refused("a seventh request, inside", STATE, x -> x.request(1, 0, 1, 1, 0)));
        calls.add(new Refused("a seventh request, wrong", STATE, x -> x.request(1, -1, 8, 0, 7)));
    }

    private static void addOnlySealed(List<Refused> calls, boolean withTasks) {
        calls.add(new Refused("unseal", STATE, asStep(x -> x.unseal())));
        for (int n : new int[] {1, 100000, 0, 100001}) {
            calls.add(new Refused("tick " + n, STATE, x -> x.tick(n)));
        }
        if (withTasks) {
            calls.add(new Refused("arrive", STATE, x -> x.arrive(0) ? 1 : 0));
            for (int length : new int[] {1, 6, 0, 7}) {
                calls.add(new Refused("shorten to " + length, STATE, asStep(x -> x.shorten(0, 0, length))));
            }
            calls.add(new Refused("shorten inside", STATE, asStep(x -> x.shorten(0, 1, 1))));
        }
    }

    private static void addOnlyNotSealed(List<Refused> calls) {
        calls.add(new Refused("seal", STATE, x -> x.seal()));
        calls.add(new Refused("task", STATE, asStep(x -> x.task(6, 3, 9, 50, 50, 1))));
        calls.add(new Refused("request", STATE, x -> x.request(0, 4, 1, 3, NONE)));
        calls.add(new Refused("request inside", STATE, x -> x.request(0, 0, 1, 3, 0)));
        for (int id = 0; id < 4; id++) {
            int i = id;
            calls.add(new Refused("take " + id, STATE, asStep(x -> x.take(i))));
        }
    }

    private static void addWrongShortening(List<Refused> calls) {
        for (int length : new int[] {0, -1, 7, LEAST, MOST}) {
            calls.add(new Refused("shorten to " + length, ARGUMENT, asStep(x -> x.shorten(0, 0, length))));
        }
        for (int length : new int[] {1, 5, 0, 6}) {
            calls.add(new Refused("shorten inside to " + length, ARGUMENT,
                    asStep(x -> x.shorten(0, 1, length))));
        }
        calls.add(new Refused("shorten the sixth", ARGUMENT, asStep(x -> x.shorten(1, 5, 5))));
    }

    private static void addWrongWhats(List<Refused> calls, boolean withTasks) {
        for (int what : new int[] {-1, 2, LEAST, MOST}) {
            calls.add(new Refused("core, what " + what, ARGUMENT, x -> x.core(0, what)));
        }
        if (withTasks) {
            for (int what : new int[] {-1, 4, LEAST, MOST}) {
                calls.add(new Refused("jobs, what " + what, ARGUMENT, x -> x.jobs(0, what)));
            }
            for (int what : new int[] {-1, 3, LEAST, MOST}) {
                calls.add(new Refused("bound, what " + what, ARGUMENT, x -> x.bound(0, what)));
            }
        }
    }
}
