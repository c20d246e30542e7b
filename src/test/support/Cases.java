import java.util.HashSet;
import java.util.LinkedHashMap;
import java.util.Map;
import java.util.Set;
import java.util.TreeMap;
import java.util.function.Consumer;
import java.util.function.ToLongFunction;

/** Cases of the promises: each bears the promise's number and a name of its own, and makes its own objects. */
final class Cases {
    static final int BEYOND = -1000001;
    static final int FULL = -1000002;
    static final int KIND = -1000003;
    static final int NONE = -1000004;
    static final int STATE = -1000005;
    static final int MISSING = -1000006;
    static final int SIZE = -1000007;

    static final int JUMPER = 0;
    static final int PROP = 1;
    static final int LOCK = 2;
    static final int TOWER = 3;
    static final int GIANT = 4;
    static final int ROOKIE = 5;
    static final int FLANKER = 6;

    /** A call of which one argument is left open. */
    interface ActOf {
        long on(LineCalls x, int v);
    }

    private final Set<String> names = new HashSet<>();
    private final Map<Integer, Integer> ran = new TreeMap<>();
    private int promise = 0;
    private String name = "";
    private int wrong = 0;

    void promise(int number) {
        promise = number;
    }

    void test(String itsName, Runnable body) {
        name = itsName;
        if (!names.add(promise + itsName)) {
            wrong("there are two cases of this name");
        }
        ran.merge(promise, 1, Integer::sum);
        try {
            body.run();
        } catch (RuntimeException | StackOverflowError e) {
            wrong("ended with " + e);
        }
    }

    void due(long got, long want) {
        if (got != want) {
            wrong("answered " + got + ", due is " + want + " (line "
                + Thread.currentThread().getStackTrace()[2].getLineNumber() + ")");
        }
    }

    private void wrong(String what) {
        wrong++;
        System.out.println("promise " + promise + ", " + name + ": " + what);
    }

    static LineCalls made(Consumer<LineCalls> from) {
        LineCalls x = new LineCalls();
        from.accept(x);
        return x;
    }

    void answers(String itsName, Consumer<LineCalls> from, ToLongFunction<LineCalls> act, long want) {
        test(itsName, () -> due(act.applyAsLong(made(from)), want));
    }

    /** The call answers a finding, and nothing changes by it but status(). */
    void refused(String itsName, Consumer<LineCalls> from, ToLongFunction<LineCalls> act, int finding) {
        int which = BEYOND - finding;
        test(itsName, () -> {
            Map<String, Long> before = Probe.all(made(from));
            changed(from, act, finding, Map.of("status -1", before.get("status -1") + 1,
                "status " + which, before.get("status " + which) + 1));
        });
    }

    /** The call answers, and nothing changes by it at all. */
    void leaves(String itsName, Consumer<LineCalls> from, ToLongFunction<LineCalls> act, long want) {
        test(itsName, () -> changed(from, act, want, Map.of()));
    }

    /** The call answers, and these rows change by it ("WIND=9"), and no others. */
    void changes(String itsName, Consumer<LineCalls> from, ToLongFunction<LineCalls> act, long want, String... rows) {
        Map<String, Long> due = new LinkedHashMap<>();
        for (String row : rows) {
            String[] parts = row.split("=");
            due.put(parts[0], Long.parseLong(parts[1]));
        }
        test(itsName, () -> changed(from, act, want, due));
    }

    private void changed(Consumer<LineCalls> from, ToLongFunction<LineCalls> act, long want, Map<String, Long> rows) {
        Map<String, Long> dueRows = new LinkedHashMap<>(Probe.all(made(from)));
        dueRows.putAll(rows);
        LineCalls x = made(from);
        due(act.applyAsLong(x), want);
        Map<String, Long> seen = Probe.all(x);
        Set<String> keys = new HashSet<>(dueRows.keySet());
        keys.addAll(seen.keySet());
        for (String key : keys) {
            Long is = seen.get(key);
            Long due = dueRows.get(key);
            if (is == null || !is.equals(due)) {
                wrong("behind it " + key + " is " + is + ", due is " + due);
            }
        }
    }

    /** An argument at both ends of what is allowed, and beyond them. */
    void ends(String what, Consumer<LineCalls> from, ActOf act, int least, long dueAtLeast, int most, long dueAtMost) {
        answers(what + " " + least + " is the least that is allowed", from, x -> act.on(x, least), dueAtLeast);
        answers(what + " " + most + " is the most that is allowed", from, x -> act.on(x, most), dueAtMost);
        beyond(what, from, act, least - 1, most + 1);
    }

    /** An argument just beyond both ends of what is allowed, and far beyond them. */
    void beyond(String what, Consumer<LineCalls> from, ActOf act, int below, int above) {
        for (int v : new int[] {below, above, Integer.MIN_VALUE, Integer.MAX_VALUE}) {
            refused(what + " " + v + " is refused", from, x -> act.on(x, v), BEYOND);
        }
    }

    /** Each promise from first to last must have had its cases; ends the program. */
    void end(int first, int last) {
        for (int p = first; p <= last; p++) {
            promise = p;
            name = "all cases";
            if (!ran.containsKey(p)) {
                wrong("there is none");
            }
        }
        System.out.println("cases of promises " + ran + (wrong == 0 ? ": all hold" : ": " + wrong + " rows are wrong"));
        System.exit(wrong == 0 ? 0 : 1);
    }
}
