import java.util.ArrayList;
import java.util.List;
import java.util.Objects;

/** Counts the answers that are not as due, and tells them. */
final class Checks {
    /** A call whose answer, or whose exception, is looked at. */
    interface Call {
        Object answer();
    }

    static final Class<?> NO_INDEX = IndexOutOfBoundsException.class;
    static final Class<?> BAD_ARGUMENT = IllegalArgumentException.class;
    static final Class<?> BAD_STATE = IllegalStateException.class;
    static final Class<?> NO_ELEMENT = java.util.NoSuchElementException.class;

    private static final int[] NO_CACHES = {-1, 4, Integer.MIN_VALUE, Integer.MAX_VALUE};
    private static final int[] NO_LINES = {-1, 16, Integer.MIN_VALUE, Integer.MAX_VALUE};

    private final String name;
    private int made = 0;
    private int wrong = 0;

    Checks(String name) {
        this.name = name;
    }

    void same(String what, Object got, Object due) {
        made++;
        if (!Objects.equals(got, due)) {
            wrong++;
            System.out.println(name + ": " + what + " answered " + got + ", due is " + due);
        }
    }

    /**
     * The call throws just this exception, and the checksum is the same as before. A snapshot would tell
     * more, but two of them take more than the 512 calls for which an object answers: see Runs.
     */
    void refuses(CacheDirectory x, String what, Class<?> due, Call call) {
        long before = x.digest();
        same(what, outcome(call), "throws." + due.getSimpleName());
        same(what + " changes nothing", x.digest(), before);
    }

    interface CallOf {
        Object answer(int argument);
    }

    void refusesNoCache(CacheDirectory x, String what, CallOf call) {
        for (int cache : NO_CACHES) {
            refuses(x, what + " of cache " + cache, NO_INDEX, () -> call.answer(cache));
        }
    }

    void refusesNoLine(CacheDirectory x, String what, CallOf call) {
        for (int line : NO_LINES) {
            refuses(x, what + " of line " + line, NO_INDEX, () -> call.answer(line));
        }
    }

    void refusesNoMessage(CacheDirectory x, String what, CallOf call) {
        for (int index : new int[] {-1, x.messageCount(), Integer.MIN_VALUE, Integer.MAX_VALUE}) {
            refuses(x, what + " of message " + index, NO_INDEX, () -> call.answer(index));
        }
    }

    void end() {
        System.out.println(name + ": " + made + " checks, " + wrong + " wrong");
        if (wrong != 0 || made == 0) {
            System.exit(1);
        }
    }

    /** An exception counts only if a throw statement of the class itself made it. */
    static String outcome(Call call) {
        try {
            return String.valueOf(call.answer());
        } catch (RuntimeException e) {
            StackTraceElement[] places = e.getStackTrace();
            boolean own = places.length > 0 && places[0].getClassName().startsWith("CacheDirectory");
            return (own ? "throws." : "thrown by the machine: ") + e.getClass().getSimpleName();
        }
    }

    /** All that an object answers without being changed: some 300 calls, so an object is asked once. */
    static List<Long> snapshot(CacheDirectory x) {
        List<Long> all = new ArrayList<>();
        for (int cache = 0; cache < 4; cache++) {
            addCache(all, x, cache);
        }
        for (int line = 0; line < 16; line++) {
            all.add((long) x.owner(line));
            all.add((long) x.sharers(line));
            all.add(x.isBusy(line) ? 1L : 0L);
            all.add((long) x.queued(line));
            all.add((long) x.memory(line));
            all.add(x.isInOrder(line) ? 1L : 0L);
        }
        for (int i = 0; i < x.messageCount(); i++) {
            all.add((long) x.messageKind(i));
            all.add((long) x.messageLine(i));
            all.add((long) x.messageFrom(i));
            all.add((long) x.messageTo(i));
        }
        all.add((long) x.writebacks());
        all.add((long) x.lateWritebacks());
        all.add(x.digest());
        return all;
    }

    private static void addCache(List<Long> all, CacheDirectory x, int cache) {
        int held = 0;
        for (int line = 0; line < 16; line++) {
            int state = x.state(cache, line);
            all.add((long) state);
            all.add((long) x.victimValue(cache, line));
            if (state != 0) {
                all.add((long) x.value(cache, line));
                held++;
            }
        }
        for (int i = 0; i < held; i++) {
            all.add((long) x.lineAt(cache, i));
        }
        all.add((long) x.openLine(cache));
        all.add((long) x.latestRead(cache));
        all.add((long) x.hits(cache));
        all.add((long) x.misses(cache));
    }

    /** The kinds of the messages on the way, in their order. */
    static List<Integer> kinds(CacheDirectory x) {
        List<Integer> all = new ArrayList<>();
        for (int i = 0; i < x.messageCount(); i++) {
            all.add(x.messageKind(i));
        }
        return all;
    }

    /** A message on the way as its kind, line, sender and receiver. */
    static List<Integer> message(CacheDirectory x, int index) {
        return List.of(x.messageKind(index), x.messageLine(index), x.messageFrom(index), x.messageTo(index));
    }

    /** The lines of a cache in the order of their latest use. */
    static List<Integer> lines(CacheDirectory x, int cache) {
        List<Integer> all = new ArrayList<>();
        for (int line = 0; line < 16; line++) {
            if (x.state(cache, line) != 0) {
                all.add(x.lineAt(cache, all.size()));
            }
        }
        return all;
    }

    static void readThrough(CacheDirectory x, int cache, int line) {
        x.read(cache, line);
        x.settle(1000);
    }

    static void writeThrough(CacheDirectory x, int cache, int line, int value) {
        x.write(cache, line, value);
        x.settle(1000);
    }

    /** Delivers the first message of a kind on the way. */
    static void deliverKind(CacheDirectory x, int kind) {
        x.deliver(kinds(x).indexOf(kind));
    }
}
