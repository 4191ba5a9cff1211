import java.util.Arrays;

/**
 * Cores that work on jobs by priorities, locks that are waited for in a row and without pause,
 * and a test beforehand under which no job is ever late.
 */
public final class SpinKernel {
    public static final int NONE = -1;
    public static final int IDLE = 0, PLAIN = 1, SPINS = 2, HOLDS = 3;

    private static final int TASKS = 16;
    private static final int CORES = 4;
    private static final int LOCKS = 8;
    private static final int REQUESTS = 6;
    private static final int MOST_PRIORITY = 1000;
    private static final int MOST_DISTANCE = 10000;
    private static final int MOST_WORK = 1000;
    private static final int MOST_LENGTH = 100;
    private static final int MOST_TICKS = 100000;

    private final Task[] tasks = new Task[TASKS];
    /** The row of a group stands at the group's least lock. */
    private final Row[] rows = new Row[LOCKS];
    private final int[] leastOfGroup = new int[LOCKS];
    /** The greatest LENGTH of outer requests, by core and least lock of the group. */
    private final int[][] longest = new int[CORES][LOCKS];
    /** What each core did in the latest tick; its task is also the one that it may have to stay with. */
    private final int[] taskOfCore = new int[CORES];
    private final int[] deedOfCore = new int[CORES];
    private boolean sealed;
    private int now;

    public SpinKernel() {
        for (int id = 0; id < TASKS; id++) {
            tasks[id] = new Task();
        }
        for (int lock = 0; lock < LOCKS; lock++) {
            rows[lock] = new Row();
            leastOfGroup[lock] = lock;
        }
        Arrays.fill(taskOfCore, NONE);
        Arrays.fill(deedOfCore, IDLE);
    }

    public void task(int id, int core, int priority, int distance, int deadline, int work)
            throws IndexOutOfBoundsException, IllegalStateException, IllegalArgumentException {
        if (!isWithin(id, 0, TASKS - 1)) {
            throw new IndexOutOfBoundsException();
        }
        if (sealed || tasks[id].isThere) {
            throw new IllegalStateException();
        }
        boolean placed = isWithin(core, 0, CORES - 1) && isWithin(priority, 0, MOST_PRIORITY);
        boolean timed = isWithin(distance, 1, MOST_DISTANCE) && isWithin(deadline, 1, distance);
        if (!placed || !timed || !isWithin(work, 1, MOST_WORK) || isPriorityTaken(core, priority)) {
            throw new IllegalArgumentException();
        }
        tasks[id].layDown(core, priority, distance, deadline, work);
        measure();
    }

    public int request(int id, int after, int lock, int length, int in)
            throws IndexOutOfBoundsException, IllegalStateException, IllegalArgumentException {
        Task task = taskAt(id);
        if (sealed || task.count >= REQUESTS) {
            throw new IllegalStateException();
        }
        boolean sized = isWithin(lock, 0, LOCKS - 1) && isWithin(length, 1, MOST_LENGTH);
        if (!sized || !task.hasPlaceFor(after, length, in)) {
            throw new IllegalArgumentException();
        }
        int number = task.addRequest(after, lock, length, in);
        measure();
        return number;
    }

    public void take(int id) throws IndexOutOfBoundsException, IllegalStateException {
        Task task = taskAt(id);
        if (sealed) {
            throw new IllegalStateException();
        }
        task.isThere = false;
        measure();
    }

    public int group(int lock) throws IndexOutOfBoundsException {
        if (!isWithin(lock, 0, LOCKS - 1)) {
            throw new IndexOutOfBoundsException();
        }
        return leastOfGroup[lock];
    }

    public int spin(int id, int request) throws IndexOutOfBoundsException {
        return requestAt(taskAt(id), request).spinBound;
    }

    public int bound(int id, int what) throws IndexOutOfBoundsException, IllegalArgumentException {
        Task task = taskAt(id);
        switch (what) {
            case 0:
                return task.inflated;
            case 1:
                return blockingOf(task);
            case 2:
                return responseOf(task);
            default:
                throw new IllegalArgumentException();
        }
    }

    public int seal() throws IllegalStateException {
        if (sealed) {
            throw new IllegalStateException();
        }
        for (int id = 0; id < TASKS; id++) {
            if (tasks[id].isThere && responseOf(tasks[id]) == NONE) {
                return id;
            }
        }
        sealed = true;
        return NONE;
    }

    public void unseal() throws IllegalStateException {
        if (!sealed || isAnyJobOpen()) {
            throw new IllegalStateException();
        }
        sealed = false;
        now = 0;
        Arrays.fill(taskOfCore, NONE);
        Arrays.fill(deedOfCore, IDLE);
        for (Task task : tasks) {
            task.forgetJobs();
        }
    }

    public boolean arrive(int id) throws IndexOutOfBoundsException, IllegalStateException {
        Task task = taskAt(id);
        if (!sealed) {
            throw new IllegalStateException();
        }
        if (task.job.hasCome && now - task.job.cameAt < task.distance) {
            return false;
        }
        // The job before has ended: its response was tested to be no more than the distance.
        task.startJob(now);
        return true;
    }

    public void shorten(int id, int request, int length)
            throws IndexOutOfBoundsException, IllegalStateException, IllegalArgumentException {
        Request told = requestAt(taskAt(id), request);
        if (!sealed) {
            throw new IllegalStateException();
        }
        if (!told.isOuter() || !isWithin(length, 1, told.length)) {
            throw new IllegalArgumentException();
        }
        told.ticksOfNextJob = length;
    }

    public int tick(int n) throws IllegalStateException, IllegalArgumentException {
        if (!sealed) {
            throw new IllegalStateException();
        }
        if (!isWithin(n, 1, MOST_TICKS)) {
            throw new IllegalArgumentException();
        }
        int ended = 0;
        int left = n;
        while (left > 0) {
            takeJobs();
            letFirstsHold();
            // No job comes during a call, so until one of the cores is through with what it does,
            // all ticks are alike and are done at once.
            int ticks = Math.max(1, Math.min(left, ticksAlike()));
            now += ticks;
            ended += workOn(ticks);
            left -= ticks;
        }
        return ended;
    }

    public int core(int core, int what) throws IndexOutOfBoundsException, IllegalArgumentException {
        if (!isWithin(core, 0, CORES - 1)) {
            throw new IndexOutOfBoundsException();
        }
        if (!isWithin(what, 0, 1)) {
            throw new IllegalArgumentException();
        }
        return what == 0 ? taskOfCore[core] : deedOfCore[core];
    }

    public int row(int lock, int i) throws IndexOutOfBoundsException {
        if (!isWithin(lock, 0, LOCKS - 1)) {
            throw new IndexOutOfBoundsException();
        }
        return rowOf(lock).coreAt(i);
    }

    public int jobs(int id, int what) throws IndexOutOfBoundsException, IllegalArgumentException {
        Job job = taskAt(id).job;
        switch (what) {
            case 0:
                return job.ended;
            case 1:
                return job.greatestResponse;
            case 2:
                return job.latestResponse;
            case 3:
                return job.isOpen ? 1 : 0;
            default:
                throw new IllegalArgumentException();
        }
    }

    public int spun(int id, int request) throws IndexOutOfBoundsException {
        return requestAt(taskAt(id), request).mostSpun;
    }

    public int late() {
        int late = 0;
        for (Task task : tasks) {
            late += task.job.endedLate;
            if (task.job.isOpen && now - task.job.cameAt > task.deadline) {
                late++;
            }
        }
        return late;
    }

    private static boolean isWithin(int number, int least, int greatest) {
        return number >= least && number <= greatest;
    }

    private Task taskAt(int id) {
        if (!isWithin(id, 0, TASKS - 1) || !tasks[id].isThere) {
            throw new IndexOutOfBoundsException();
        }
        return tasks[id];
    }

    private static Request requestAt(Task task, int number) {
        if (!isWithin(number, 0, task.count - 1)) {
            throw new IndexOutOfBoundsException();
        }
        return task.requests[number];
    }

    private Row rowOf(int lock) {
        return rows[leastOfGroup[lock]];
    }

    private boolean isPriorityTaken(int core, int priority) {
        for (Task task : tasks) {
            if (task.isOn(core) && task.priority == priority) {
                return true;
            }
        }
        return false;
    }

    private boolean isAnyJobOpen() {
        for (Task task : tasks) {
            if (task.job.isOpen) {
                return true;
            }
        }
        return false;
    }

    /** Works out anew what depends on all that is laid down together. */
    private void measure() {
        formGroups();
        findLongest();
        for (Task task : tasks) {
            if (task.isThere) {
                inflate(task);
            }
        }
    }

    private void formGroups() {
        for (int lock = 0; lock < LOCKS; lock++) {
            leastOfGroup[lock] = lock;
        }
        for (Task task : tasks) {
            for (int i = 0; task.isThere && i < task.count; i++) {
                Request request = task.requests[i];
                if (!request.isOuter()) {
                    joinGroups(request.lock, task.requests[request.in].lock);
                }
            }
        }
    }

    private void joinGroups(int lock, int other) {
        int least = Math.min(leastOfGroup[lock], leastOfGroup[other]);
        int greater = Math.max(leastOfGroup[lock], leastOfGroup[other]);
        for (int i = 0; i < LOCKS; i++) {
            if (leastOfGroup[i] == greater) {
                leastOfGroup[i] = least;
            }
        }
    }

    private void findLongest() {
        for (int core = 0; core < CORES; core++) {
            Arrays.fill(longest[core], 0);
        }
        for (Task task : tasks) {
            for (int i = 0; task.isThere && i < task.count; i++) {
                Request request = task.requests[i];
                int group = leastOfGroup[request.lock];
                if (request.isOuter()) {
                    longest[task.core][group] = Math.max(longest[task.core][group], request.length);
                }
            }
        }
    }

    private void inflate(Task task) {
        task.inflated = task.work;
        for (int i = 0; i < task.count; i++) {
            Request request = task.requests[i];
            if (request.isOuter()) {
                request.spinBound = longestElsewhere(task.core, leastOfGroup[request.lock]);
                task.inflated += request.length + request.spinBound;
            }
        }
    }

    private int longestElsewhere(int ownCore, int group) {
        int sum = 0;
        for (int core = 0; core < CORES; core++) {
            if (core != ownCore) {
                sum += longest[core][group];
            }
        }
        return sum;
    }

    private int blockingOf(Task task) {
        int blocking = 0;
        for (Task other : tasks) {
            if (other.isOn(task.core) && other.priority < task.priority) {
                blocking = Math.max(blocking, other.longestStay() - 1);
            }
        }
        return blocking;
    }

    /** The least R that is what it demands: it grows from below, so the first one met is the least. */
    private int responseOf(Task task) {
        int own = task.inflated + blockingOf(task);
        int response = own;
        for (int round = 0; round <= MOST_DISTANCE && response <= task.deadline; round++) {
            int demanded = own + demandAbove(task, response);
            if (demanded == response) {
                return response;
            }
            response = demanded;
        }
        return NONE;
    }

    private int demandAbove(Task task, int ticks) {
        int demand = 0;
        for (Task other : tasks) {
            if (other.isOn(task.core) && other.priority > task.priority) {
                demand += other.inflated * other.beginningsIn(ticks);
            }
        }
        return demand;
    }

    private void takeJobs() {
        for (int core = 0; core < CORES; core++) {
            if (!isHeldFast(core)) {
                taskOfCore[core] = mostUrgentOn(core);
                askIfDue(core);
            }
        }
    }

    private boolean isHeldFast(int core) {
        int id = taskOfCore[core];
        return id != NONE && tasks[id].job.state != PLAIN;
    }

    private int mostUrgentOn(int core) {
        int chosen = NONE;
        for (int id = 0; id < TASKS; id++) {
            boolean isReady = tasks[id].isOn(core) && tasks[id].job.isOpen;
            if (isReady && (chosen == NONE || tasks[id].priority > tasks[chosen].priority)) {
                chosen = id;
            }
        }
        return chosen;
    }

    private void askIfDue(int core) {
        int id = taskOfCore[core];
        if (id != NONE && tasks[id].hasToAsk()) {
            tasks[id].startSpinning();
            rowOf(tasks[id].nextRequest().lock).join(core);
        }
    }

    private void letFirstsHold() {
        for (Row row : rows) {
            int core = row.coreAt(0);
            int id = core == NONE ? NONE : taskOfCore[core];
            if (id != NONE && tasks[id].job.state == SPINS) {
                tasks[id].startHolding();
            }
        }
    }

    private int ticksAlike() {
        int ticks = MOST_TICKS;
        for (int core = 0; core < CORES; core++) {
            int id = taskOfCore[core];
            if (id != NONE && tasks[id].job.state != SPINS) {
                ticks = Math.min(ticks, tasks[id].ticksToChange());
            }
        }
        return ticks;
    }

    /** How many jobs ended by it. */
    private int workOn(int ticks) {
        int ended = 0;
        for (int core = 0; core < CORES; core++) {
            int id = taskOfCore[core];
            deedOfCore[core] = id == NONE ? IDLE : tasks[id].job.state;
            if (id != NONE && workOnJob(tasks[id], ticks)) {
                ended++;
            }
        }
        return ended;
    }

    /** Whether the job ended by it. */
    private boolean workOnJob(Task task, int ticks) {
        if (task.job.state == SPINS) {
            task.spinFor(ticks);
            return false;
        }
        if (task.job.state == PLAIN) {
            task.job.workDone += ticks;
        } else {
            holdFor(task, ticks);
        }
        if (!task.isAllDone()) {
            return false;
        }
        task.endJob(now);
        return true;
    }

    private void holdFor(Task task, int ticks) {
        task.job.sectionLeft -= ticks;
        if (task.job.sectionLeft <= 0) {
            rowOf(task.nextRequest().lock).dropFirst();
            task.leaveSection();
        }
    }

    /** A request as it is laid down, what the test says of it, and what its sections are and were. */
    private static final class Request {
        int after;
        int lock;
        int length;
        int in;
        int spinBound;
        /** 0 when no other than LENGTH is told. */
        int ticksOfNextJob;
        int ticksOfJob;
        int mostSpun;

        void layDown(int newAfter, int newLock, int newLength, int newIn) {
            after = newAfter;
            lock = newLock;
            length = newLength;
            in = newIn;
            spinBound = 0;
        }

        boolean isOuter() {
            return in == NONE;
        }

        void startJob() {
            ticksOfJob = ticksOfNextJob == 0 ? length : ticksOfNextJob;
            ticksOfNextJob = 0;
        }

        void forgetJobs() {
            ticksOfNextJob = 0;
            mostSpun = 0;
        }
    }

    /** The latest job of a task, and the record of those that ended. */
    private static final class Job {
        boolean hasCome;
        boolean isOpen;
        int cameAt;
        int state = PLAIN;
        int workDone;
        /** The number of the outer request that is in work or comes next; the count when none does. */
        int next;
        int sectionLeft;
        int spinning;
        int ended;
        int endedLate;
        int greatestResponse;
        int latestResponse;

        void start(int now, int firstRequest) {
            hasCome = true;
            isOpen = true;
            cameAt = now;
            state = PLAIN;
            workDone = 0;
            next = firstRequest;
        }

        void end(int now, int deadline) {
            isOpen = false;
            ended++;
            latestResponse = now - cameAt;
            greatestResponse = Math.max(greatestResponse, latestResponse);
            if (latestResponse > deadline) {
                endedLate++;
            }
        }

        /** Only when it is not open. */
        void forget() {
            hasCome = false;
            ended = 0;
            endedLate = 0;
            greatestResponse = 0;
            latestResponse = 0;
        }
    }

    /** A place for a task: the objects in it are made once and used again by every task laid down there. */
    private static final class Task {
        boolean isThere;
        int core;
        int priority;
        int distance;
        int deadline;
        int work;
        int inflated;
        int count;
        final Request[] requests = new Request[REQUESTS];
        final Job job = new Job();

        Task() {
            for (int i = 0; i < REQUESTS; i++) {
                requests[i] = new Request();
            }
        }

        void layDown(int newCore, int newPriority, int newDistance, int newDeadline, int newWork) {
            isThere = true;
            core = newCore;
            priority = newPriority;
            distance = newDistance;
            deadline = newDeadline;
            work = newWork;
            count = 0;
        }

        boolean isOn(int ofCore) {
            return isThere && core == ofCore;
        }

        boolean isOuter(int number) {
            return number >= 0 && number < count && requests[number].isOuter();
        }

        boolean hasPlaceFor(int after, int length, int in) {
            if (in == NONE) {
                return after >= greatestAfter() && after <= work;
            }
            return isOuter(in) && after >= 0 && after <= requests[in].length - length;
        }

        /** Outer requests are laid down in the order of their AFTER: it is that of the latest. */
        int greatestAfter() {
            int greatest = 0;
            for (int i = 0; i < count; i++) {
                if (requests[i].isOuter()) {
                    greatest = requests[i].after;
                }
            }
            return greatest;
        }

        int addRequest(int after, int lock, int length, int in) {
            int number = count;
            requests[number].layDown(after, lock, length, in);
            count++;
            return number;
        }

        /** The greatest LENGTH and SPIN of an outer request, 0 without. */
        int longestStay() {
            int greatest = 0;
            for (int i = 0; i < count; i++) {
                if (requests[i].isOuter()) {
                    greatest = Math.max(greatest, requests[i].length + requests[i].spinBound);
                }
            }
            return greatest;
        }

        int beginningsIn(int ticks) {
            return distance < 1 ? 0 : (ticks + distance - 1) / distance;
        }

        void startJob(int now) {
            for (int i = 0; i < count; i++) {
                requests[i].startJob();
            }
            job.start(now, outerFrom(0));
        }

        void endJob(int now) {
            job.end(now, deadline);
        }

        void forgetJobs() {
            for (int i = 0; i < count; i++) {
                requests[i].forgetJobs();
            }
            job.forget();
        }

        int outerFrom(int number) {
            int outer = number;
            while (outer < count && !requests[outer].isOuter()) {
                outer++;
            }
            return outer;
        }

        /** To be called only while a request is in work or has to be asked for. */
        Request nextRequest() {
            return requests[Math.min(job.next, REQUESTS - 1)];
        }

        boolean hasToAsk() {
            return job.next < count && nextRequest().after == job.workDone;
        }

        void startSpinning() {
            job.state = SPINS;
            job.spinning = 0;
        }

        void spinFor(int ticks) {
            job.spinning += ticks;
            Request request = nextRequest();
            request.mostSpun = Math.max(request.mostSpun, job.spinning);
        }

        void startHolding() {
            job.state = HOLDS;
            job.sectionLeft = nextRequest().ticksOfJob;
        }

        void leaveSection() {
            job.state = PLAIN;
            job.next = outerFrom(job.next + 1);
        }

        /** For how many ticks a job that works or holds goes on with just that. */
        int ticksToChange() {
            if (job.state == HOLDS) {
                return job.sectionLeft;
            }
            int stop = job.next < count ? nextRequest().after : work;
            return stop - job.workDone;
        }

        boolean isAllDone() {
            return job.state == PLAIN && job.workDone >= work && job.next >= count;
        }
    }

    /** The cores that wait for a group's locks, the one that holds first; each is in it once at most. */
    private static final class Row {
        final int[] cores = new int[CORES];
        int size;

        void join(int core) {
            if (size < CORES) {
                cores[size] = core;
                size++;
            }
        }

        void dropFirst() {
            for (int i = 1; i < size; i++) {
                cores[i - 1] = cores[i];
            }
            size = Math.max(0, size - 1);
        }

        int coreAt(int i) {
            return i >= 0 && i < size ? cores[i] : NONE;
        }
    }
}
