/** Counts what is not as due; a test ends by finish(). */
final class Check {
    interface Call {
        long make();
    }

    /** Stands before the name of the exception when a call threw one. */
    static final String THROWS = "throws.";

    private static int made = 0;
    private static int wrong = 0;

    private Check() {
    }

    static void due(String what, long got, long want) {
        due(what, Long.toString(got), Long.toString(want));
    }

    static void due(String what, String got, String want) {
        made++;
        if (!got.equals(want)) {
            wrong++;
            System.out.println(what + ": got " + got + ", due is " + want);
        }
    }

    /** The answer of a call, or the name of what it threw. */
    static String outcome(Call call) {
        try {
            return Long.toString(call.make());
        } catch (RuntimeException e) {
            return THROWS + e.getClass().getSimpleName();
        }
    }

    /** The call throws just this, and nothing that the object tells is another afterwards. */
    static void refused(String what, SpinKernel x, Class<? extends RuntimeException> due, Call call) {
        String before = pictureOf(x);
        due(what, outcome(call), THROWS + due.getSimpleName());
        due(what + ", and what it changed", pictureOf(x), before);
    }

    static void index(String what, SpinKernel x, Call call) {
        refused(what, x, IndexOutOfBoundsException.class, call);
    }

    static void state(String what, SpinKernel x, Call call) {
        refused(what, x, IllegalStateException.class, call);
    }

    static void argument(String what, SpinKernel x, Call call) {
        refused(what, x, IllegalArgumentException.class, call);
    }

    /** All that can be asked without changing anything. */
    static String pictureOf(SpinKernel x) {
        StringBuilder text = new StringBuilder();
        for (int lock = 0; lock < 8; lock++) {
            text.append(" g").append(x.group(lock));
            for (int i = 0; i < 4; i++) {
                text.append(',').append(x.row(lock, i));
            }
        }
        for (int core = 0; core < 4; core++) {
            text.append(" c").append(x.core(core, 0)).append(',').append(x.core(core, 1));
        }
        for (int id = 0; id < 16; id++) {
            addTask(text, x, id);
        }
        return text.append(" late ").append(x.late()).toString();
    }

    private static void addTask(StringBuilder text, SpinKernel x, int id) {
        text.append(" t").append(id);
        for (int what = 0; what < 4; what++) {
            int w = what;
            text.append(',').append(outcome(() -> x.bound(id, w)));
            text.append(',').append(outcome(() -> x.jobs(id, w)));
        }
        for (int request = 0; request < 6; request++) {
            int r = request;
            text.append(',').append(outcome(() -> x.spin(id, r)));
            text.append(',').append(outcome(() -> x.spun(id, r)));
        }
    }

    static void finish() {
        System.out.println(made + " answers looked at, " + wrong + " not as due");
        if (wrong != 0) {
            System.exit(1);
        }
    }
}
