import java.util.ArrayList;
import java.util.List;

/** Long runs of calls, each answer compared with that of Model, which does what the words say tick by tick. */
public final class ModelTest {
    private static final int RUNS = 600;
    private static final int CALLS = 512;
    private static final int NONE = SpinKernel.NONE;

    private final Dice dice;
    private final String name;
    private final SpinKernel real = new SpinKernel();
    private final Model model = new Model();
    /** The greatest distance, length and number of ticks that this run likes. */
    private final int wide;
    /** Few locks and much time between jobs: more tasks can be sealed together, and more of them spin. */
    private final boolean roomy;
    private static long ended = 0;
    private static long spun = 0;
    private static long sealed = 0;

    private ModelTest(int run) {
        dice = new Dice(run);
        name = "run " + run;
        wide = new int[] {6, 20, 60, 300}[dice.below(4)];
        roomy = dice.below(3) > 0;
    }

    public static void main(String[] args) {
        for (int run = 0; run < RUNS; run++) {
            new ModelTest(run).play();
        }
        System.out.println(sealed + " seals, " + ended + " jobs ended, " + spun + " ticks of greatest spinning");
        Check.due("runs worth something", sealed > RUNS && ended > 50 * RUNS && spun > 200 * RUNS ? 1 : 0, 1);
        Check.finish();
    }

    private void play() {
        for (int i = 0; i < CALLS; i++) {
            if (model.sealed) {
                sealedCall();
            } else {
                openCall();
            }
            lookAround();
        }
    }

    private void same(String what, Check.Call ofReal, Check.Call ofModel) {
        Check.due(name + " " + what, Check.outcome(ofReal), Check.outcome(ofModel));
    }

    private void openCall() {
        int choice = dice.below(40);
        if (choice < 15) {
            callTask();
        } else if (choice < 36) {
            callRequest();
        } else if (choice < 37) {
            int id = anyTask();
            same("take " + id, () -> { real.take(id); return 0; }, () -> { model.take(id); return 0; });
        } else if (choice < 38) {
            anyCall();
        } else {
            callSeal();
        }
    }

    private void sealedCall() {
        int choice = dice.below(20);
        if (choice < 9) {
            for (int more = dice.below(8); more >= 0; more--) {
                callArrive(anyTask());
            }
        } else if (choice < 17) {
            callTick();
        } else if (choice < 18) {
            callShorten();
        } else if (choice < 19) {
            anyCall();
        } else if (dice.below(4) == 0) {
            same("unseal", () -> { real.unseal(); return 0; }, () -> { model.unseal(); return 0; });
        }
    }

    private void anyCall() {
        switch (dice.below(7)) {
            case 0: callTask(); break;
            case 1: callRequest(); break;
            case 2: callShorten(); break;
            case 3: callTick(); break;
            case 4: same("seal", real::seal, model::seal); break;
            case 5: same("unseal", () -> { real.unseal(); return 0; }, () -> { model.unseal(); return 0; }); break;
            default: callArrive(dice.below(18) - 1); break;
        }
    }

    private void callArrive(int id) {
        same("arrive " + id, () -> real.arrive(id) ? 1 : 0, () -> model.arrive(id) ? 1 : 0);
    }

    private int anyTask() {
        int id = dice.below(18) - 1;
        for (int tries = 0; tries < 8 && !model.isThere(id); tries++) {
            id = dice.below(18) - 1;
        }
        return id;
    }

    private void callTask() {
        int id = dice.below(18) - (dice.below(10) == 0 ? 1 : 0);
        int core = dice.below(40) == 0 ? dice.below(8) - 2 : dice.below(4);
        int priority = dice.below(40) == 0 ? dice.below(1005) - 2 : dice.below(12);
        int distance = dice.below(40) == 0 ? dice.oneOf(0, -1, 10000, 10001) : 1 + dice.below(8 * wide) + (roomy ? 30 * wide : 0);
        int deadline = dice.below(4) == 0 ? dice.below(distance + 2) : distance;
        int work = dice.below(40) == 0 ? dice.oneOf(0, -1, 1000, 1001) : 1 + dice.below(1 + wide / 4);
        same("task " + id, () -> { real.task(id, core, priority, distance, deadline, work); return 0; },
                () -> { model.task(id, core, priority, distance, deadline, work); return 0; });
    }

    private void callRequest() {
        int id = anyTask();
        int in = dice.below(3) == 0 ? dice.below(8) - 2 : NONE;
        int after = dice.below(1 + wide / 4) - (dice.below(20) == 0 ? 1 : 0);
        int lock = dice.below(40) == 0 ? dice.below(12) - 2 : dice.below(roomy ? 3 : 8);
        int length = dice.below(40) == 0 ? dice.oneOf(0, -1, 100, 101) : 1 + dice.below(1 + wide / 4);
        same("request of " + id, () -> real.request(id, after, lock, length, in),
                () -> model.request(id, after, lock, length, in));
    }

    /** Takes away what could be late until the rest can be sealed, mostly. */
    private void callSeal() {
        for (int tries = 0; tries < 16; tries++) {
            same("seal", real::seal, model::seal);
            if (model.sealed) {
                sealed++;
                return;
            }
            int id = model.firstLate();
            if (id == NONE || dice.below(10) == 0) {
                return;
            }
            same("take " + id, () -> { real.take(id); return 0; }, () -> { model.take(id); return 0; });
        }
    }

    private void callShorten() {
        int id = anyTask();
        int request = dice.below(8) - 1;
        int length = dice.below(2 + wide / 4);
        same("shorten", () -> { real.shorten(id, request, length); return 0; },
                () -> { model.shorten(id, request, length); return 0; });
    }

    private void callTick() {
        int n = 1 + dice.below(dice.oneOf(1, 3, 3, wide, 10 * wide));
        if (dice.below(30) == 0) {
            n = dice.oneOf(0, -1, 100001, 1000);
        }
        tickBoth(n);
    }

    private void tickBoth(int n) {
        same("tick " + n, () -> real.tick(n), () -> { long e = model.tick(n); ended += e; return e; });
    }

    private void lookAround() {
        for (int lock = -1; lock <= 8; lock++) {
            int l = lock;
            same("group " + l, () -> real.group(l), () -> model.group(l));
            int i = dice.below(6) - 1;
            same("row " + l + " " + i, () -> real.row(l, i), () -> model.row(l, i));
        }
        for (int core = -1; core <= 4; core++) {
            int c = core;
            int what = dice.below(4) - 1;
            same("core " + c + " " + what, () -> real.core(c, what), () -> model.core(c, what));
        }
        for (int looks = 0; looks < 4; looks++) {
            int id = anyTask();
            int what = dice.below(6) - 1;
            int request = dice.below(8) - 1;
            same("bound " + id + " " + what, () -> real.bound(id, what), () -> model.bound(id, what));
            same("jobs " + id + " " + what, () -> real.jobs(id, what), () -> model.jobs(id, what));
            same("spin " + id + " " + request, () -> real.spin(id, request), () -> model.spin(id, request));
            same("spun " + id + " " + request, () -> real.spun(id, request),
                    () -> { long s = model.spun(id, request); spun += s; return s; });
        }
        Check.due(name + " late", real.late(), 0);
        Check.due(name + " late in the model", model.late(), 0);
    }

    /** Numbers by a fixed rule, so that every run of the test is the same. */
    private static final class Dice {
        private long state;

        Dice(long seed) {
            state = seed * 7919 + 12345;
        }

        int below(int bound) {
            state = state * 6364136223846793005L + 1442695040888963407L;
            return (int) ((state >>> 33) % Math.max(1, bound));
        }

        int oneOf(int... numbers) {
            return numbers[below(numbers.length)];
        }
    }

    /** The document's words in their plainest form: all is worked out when it is asked for. */
    private static final class Model {
        static final class Req {
            int after, lock, length, in, told, most;
        }

        static final class Tsk {
            int core, priority, distance, deadline, work;
            List<Req> requests = new ArrayList<>();
            Job open;
            long came = Long.MIN_VALUE;
            List<Integer> responses = new ArrayList<>();
        }

        static final class Job {
            Tsk task;
            int done;
            List<Req> ahead = new ArrayList<>();
            List<Integer> sections = new ArrayList<>();
            boolean inRow, holds;
            int spunNow;
        }

        final Tsk[] tasks = new Tsk[16];
        boolean sealed;
        long time;
        final Job[] with = new Job[4];
        final int[] lastTask = {NONE, NONE, NONE, NONE};
        final int[] lastDeed = new int[4];
        final List<List<Integer>> rows = new ArrayList<>();
        int ranLate;

        Model() {
            for (int i = 0; i < 8; i++) {
                rows.add(new ArrayList<>());
            }
        }

        boolean isThere(int id) {
            return id >= 0 && id < 16 && tasks[id] != null;
        }

        Tsk get(int id) {
            if (!isThere(id)) {
                throw new IndexOutOfBoundsException();
            }
            return tasks[id];
        }

        Req get(int id, int request) {
            Tsk t = get(id);
            if (request < 0 || request >= t.requests.size()) {
                throw new IndexOutOfBoundsException();
            }
            return t.requests.get(request);
        }

        static void argument(boolean good) {
            if (!good) {
                throw new IllegalArgumentException();
            }
        }

        static void state(boolean good) {
            if (!good) {
                throw new IllegalStateException();
            }
        }

        void task(int id, int core, int priority, int distance, int deadline, int work) {
            if (id < 0 || id > 15) {
                throw new IndexOutOfBoundsException();
            }
            state(!sealed && tasks[id] == null);
            argument(core >= 0 && core <= 3);
            argument(priority >= 0 && priority <= 1000);
            argument(distance >= 1 && distance <= 10000);
            argument(deadline >= 1 && deadline <= distance);
            argument(work >= 1 && work <= 1000);
            for (Tsk t : tasks) {
                argument(t == null || t.core != core || t.priority != priority);
            }
            Tsk t = new Tsk();
            t.core = core;
            t.priority = priority;
            t.distance = distance;
            t.deadline = deadline;
            t.work = work;
            tasks[id] = t;
        }

        int request(int id, int after, int lock, int length, int in) {
            Tsk t = get(id);
            state(!sealed && t.requests.size() < 6);
            argument(lock >= 0 && lock <= 7);
            argument(length >= 1 && length <= 100);
            if (in == NONE) {
                argument(after >= 0 && after <= t.work);
                for (Req r : t.requests) {
                    argument(r.in != NONE || r.after <= after);
                }
            } else {
                argument(in >= 0 && in < t.requests.size() && t.requests.get(in).in == NONE);
                argument(after >= 0 && (long) after + length <= t.requests.get(in).length);
            }
            Req r = new Req();
            r.after = after;
            r.lock = lock;
            r.length = length;
            r.in = in;
            t.requests.add(r);
            return t.requests.size() - 1;
        }

        void take(int id) {
            get(id);
            state(!sealed);
            tasks[id] = null;
        }

        int group(int lock) {
            if (lock < 0 || lock > 7) {
                throw new IndexOutOfBoundsException();
            }
            boolean[] reached = new boolean[8];
            reached[lock] = true;
            for (int round = 0; round < 8; round++) {
                for (Tsk t : tasks) {
                    for (Req r : t == null ? new ArrayList<Req>() : t.requests) {
                        if (r.in != NONE && (reached[r.lock] || reached[t.requests.get(r.in).lock])) {
                            reached[r.lock] = true;
                            reached[t.requests.get(r.in).lock] = true;
                        }
                    }
                }
            }
            int least = 0;
            while (!reached[least]) {
                least++;
            }
            return least;
        }

        int spinOf(Tsk t, Req r) {
            if (r.in != NONE) {
                return 0;
            }
            int sum = 0;
            int group = group(r.lock);
            for (int core = 0; core < 4; core++) {
                int greatest = 0;
                for (Tsk o : tasks) {
                    for (Req q : o == null || o.core != core || core == t.core ? new ArrayList<Req>() : o.requests) {
                        if (q.in == NONE && q.length > greatest && group(q.lock) == group) {
                            greatest = q.length;
                        }
                    }
                }
                sum += greatest;
            }
            return sum;
        }

        int spin(int id, int request) {
            Req r = get(id, request);
            return spinOf(get(id), r);
        }

        int inflated(Tsk t) {
            int sum = t.work;
            for (Req r : t.requests) {
                sum += r.in == NONE ? r.length + spinOf(t, r) : 0;
            }
            return sum;
        }

        int blocking(Tsk t) {
            int greatest = 0;
            for (Tsk o : tasks) {
                if (o != null && o.core == t.core && o.priority < t.priority) {
                    for (Req r : o.requests) {
                        greatest = r.in == NONE ? Math.max(greatest, r.length + spinOf(o, r) - 1) : greatest;
                    }
                }
            }
            return greatest;
        }

        int response(Tsk t) {
            int own = inflated(t) + blocking(t);
            List<Tsk> above = new ArrayList<>();
            List<Integer> works = new ArrayList<>();
            for (Tsk o : tasks) {
                if (o != null && o.core == t.core && o.priority > t.priority) {
                    above.add(o);
                    works.add(inflated(o));
                }
            }
            for (int r = 1; r <= t.deadline; r++) {
                long sum = own;
                for (int i = 0; i < above.size(); i++) {
                    int times = r / above.get(i).distance + (r % above.get(i).distance == 0 ? 0 : 1);
                    sum += (long) times * works.get(i);
                }
                if (sum == r) {
                    return r;
                }
            }
            return NONE;
        }

        int bound(int id, int what) {
            Tsk t = get(id);
            argument(what >= 0 && what <= 2);
            return what == 0 ? inflated(t) : what == 1 ? blocking(t) : response(t);
        }

        int firstLate() {
            for (int id = 0; id < 16; id++) {
                if (tasks[id] != null && response(tasks[id]) == NONE) {
                    return id;
                }
            }
            return NONE;
        }

        int seal() {
            state(!sealed);
            int late = firstLate();
            sealed = late == NONE;
            return late;
        }

        void unseal() {
            state(sealed);
            for (Tsk t : tasks) {
                state(t == null || t.open == null);
            }
            sealed = false;
            time = 0;
            ranLate = 0;
            for (int core = 0; core < 4; core++) {
                with[core] = null;
                lastTask[core] = NONE;
                lastDeed[core] = SpinKernel.IDLE;
            }
            for (Tsk t : tasks) {
                if (t != null) {
                    t.came = Long.MIN_VALUE;
                    t.responses.clear();
                    for (Req r : t.requests) {
                        r.told = 0;
                        r.most = 0;
                    }
                }
            }
        }

        boolean arrive(int id) {
            Tsk t = get(id);
            state(sealed);
            if (t.came != Long.MIN_VALUE && time - t.came < t.distance) {
                return false;
            }
            if (t.open != null) {
                throw new AssertionError("the job before is still open");
            }
            Job j = new Job();
            j.task = t;
            for (Req r : t.requests) {
                if (r.in == NONE) {
                    j.ahead.add(r);
                    j.sections.add(r.told > 0 ? r.told : r.length);
                    r.told = 0;
                }
            }
            t.open = j;
            t.came = time;
            return true;
        }

        void shorten(int id, int request, int length) {
            Req r = get(id, request);
            state(sealed);
            argument(r.in == NONE && length >= 1 && length <= r.length);
            r.told = length;
        }

        int tick(int n) {
            state(sealed);
            argument(n >= 1 && n <= 100000);
            int count = 0;
            for (int i = 0; i < n; i++) {
                count += oneTick();
            }
            return count;
        }

        int oneTick() {
            for (int core = 0; core < 4; core++) {
                if (with[core] == null || !with[core].inRow) {
                    with[core] = best(core);
                    Job j = with[core];
                    if (j != null && !j.ahead.isEmpty() && j.ahead.get(0).after == j.done) {
                        rows.get(group(j.ahead.get(0).lock)).add(core);
                        j.inRow = true;
                        j.spunNow = 0;
                    }
                }
            }
            for (List<Integer> row : rows) {
                if (!row.isEmpty()) {
                    with[row.get(0)].holds = true;
                }
            }
            time++;
            int count = 0;
            for (int core = 0; core < 4; core++) {
                count += oneTickOf(core);
            }
            return count;
        }

        Job best(int core) {
            Tsk best = null;
            for (Tsk t : tasks) {
                if (t != null && t.core == core && t.open != null && (best == null || t.priority > best.priority)) {
                    best = t;
                }
            }
            return best == null ? null : best.open;
        }

        int oneTickOf(int core) {
            Job j = with[core];
            lastTask[core] = j == null ? NONE : idOf(j.task);
            if (j == null) {
                lastDeed[core] = SpinKernel.IDLE;
                return 0;
            }
            if (j.holds) {
                lastDeed[core] = SpinKernel.HOLDS;
                j.sections.set(0, j.sections.get(0) - 1);
                if (j.sections.get(0) == 0) {
                    rows.get(group(j.ahead.get(0).lock)).remove(0);
                    j.sections.remove(0);
                    j.ahead.remove(0);
                    j.inRow = false;
                    j.holds = false;
                }
            } else if (j.inRow) {
                lastDeed[core] = SpinKernel.SPINS;
                j.spunNow++;
                j.ahead.get(0).most = Math.max(j.ahead.get(0).most, j.spunNow);
            } else {
                lastDeed[core] = SpinKernel.PLAIN;
                j.done++;
            }
            if (j.done < j.task.work || !j.ahead.isEmpty()) {
                return 0;
            }
            j.task.open = null;
            j.task.responses.add((int) (time - j.task.came));
            if (time - j.task.came > j.task.deadline) {
                ranLate++;
            }
            with[core] = null;
            return 1;
        }

        int idOf(Tsk task) {
            int id = 0;
            while (tasks[id] != task) {
                id++;
            }
            return id;
        }

        int core(int core, int what) {
            if (core < 0 || core > 3) {
                throw new IndexOutOfBoundsException();
            }
            argument(what == 0 || what == 1);
            return what == 0 ? lastTask[core] : lastDeed[core];
        }

        int row(int lock, int i) {
            List<Integer> row = rows.get(group(lock));
            return i < 0 || i >= row.size() ? NONE : row.get(i);
        }

        int jobs(int id, int what) {
            Tsk t = get(id);
            argument(what >= 0 && what <= 3);
            int greatest = 0;
            int latest = 0;
            for (int response : t.responses) {
                greatest = Math.max(greatest, response);
                latest = response;
            }
            return new int[] {t.responses.size(), greatest, latest, t.open == null ? 0 : 1}[what];
        }

        int spun(int id, int request) {
            return get(id, request).most;
        }

        int late() {
            int count = ranLate;
            for (Tsk t : tasks) {
                count += t != null && t.open != null && time - t.came > t.deadline ? 1 : 0;
            }
            return count;
        }
    }
}
