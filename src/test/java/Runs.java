import java.lang.reflect.InvocationTargetException;
import java.lang.reflect.Method;
import java.lang.reflect.Modifier;
import java.util.ArrayList;
import java.util.Arrays;
import java.util.List;
import java.util.Map;
import java.util.TreeMap;
import java.util.regex.Matcher;
import java.util.regex.Pattern;

/**
 * Holds sentences of the document by runs of calls, written as the document writes its examples:
 * "write(0, 3, 7) = false; settle(10) = 3". Each run begins with a new object. A call without an
 * answer must only not throw. For every call that is refused it is tested that it changes nothing.
 *
 * Beside the calls of the face a run may ask kinds() of the messages on the way, a whole
 * message(index) as kind, line, sender and receiver, and the lines(cache) in the order of their use.
 */
final class Runs {
    private static final Pattern CALL = Pattern.compile("(\\w+)\\(([-\\d, ]*)\\)");
    private static final int FULL = 1000;
    private static final Map<String, Method> FACE = face();

    private final Checks checks;

    Runs(String name) {
        checks = new Checks(name);
    }

    void end() {
        checks.end();
    }

    /** The sentence of the document holds in each of the runs. */
    void hold(String sentence, String... runs) {
        for (String run : runs) {
            play(sentence, run);
        }
    }

    /**
     * The sentence tells the exception of a call whose argument "?" lies beyond two bounds: thrown
     * just below and just above them, and for the least and the greatest int; not thrown at them,
     * where the call may have an answer.
     */
    void bound(String sentence, String before, String call, int lowest, int highest, String exception) {
        for (int wrong : new int[] {lowest - 1, highest + 1, Integer.MIN_VALUE, Integer.MAX_VALUE}) {
            play(sentence, before + ";" + put(call.split(" = ")[0], wrong) + " = throws " + exception);
        }
        play(sentence, before + ";" + put(call, lowest));
        play(sentence, before + ";" + put(call, highest));
    }

    private static String put(String call, int argument) {
        return call.replace("?", String.valueOf(argument));
    }

    /** A new object upon which the calls of the run have been made; what they answered is not looked at. */
    static CacheDirectory after(String run) {
        return replay(steps(run).stream().map(step -> step.split(" = ")[0]).toList());
    }

    private void play(String sentence, String run) {
        CacheDirectory x = new CacheDirectory();
        List<String> taken = new ArrayList<>();
        for (String step : steps(run)) {
            playStep(sentence, x, taken, step.split(" = ", 2));
        }
    }

    private static List<String> steps(String run) {
        return Arrays.stream(run.split("[;\n]")).map(String::strip).filter(step -> !step.isEmpty()).toList();
    }

    private void playStep(String sentence, CacheDirectory x, List<String> taken, String[] callAndDue) {
        String call = callAndDue[0];
        String what = "\"" + sentence + "\" after " + taken + ": " + call;
        String got = answer(x, call);
        if (callAndDue.length == 2) {
            checks.same(what, got, callAndDue[1]);
        } else {
            checks.same(what + " is refused", got.startsWith("throw"), false);
        }
        if (got.startsWith("throw")) {
            checkChangesNothing(what, taken, call);
        } else {
            taken.add(call);
        }
    }

    /**
     * Objects that are made anew for each look, since an object answers for 512 calls only: one look
     * at all that can be asked at once, and one at what comes of it, which tells the rest.
     */
    private void checkChangesNothing(String what, List<String> taken, String call) {
        CacheDirectory refused = replay(taken);
        answer(refused, call);
        checks.same(what + " changes nothing", Checks.snapshot(refused), Checks.snapshot(replay(taken)));
        CacheDirectory refusedToo = replay(taken);
        answer(refusedToo, call);
        checks.same(what + " changes nothing of what follows", aftermath(refusedToo), aftermath(replay(taken)));
    }

    private static CacheDirectory replay(List<String> calls) {
        CacheDirectory x = new CacheDirectory();
        calls.forEach(call -> answer(x, call));
        return x;
    }

    /** Shows what messages and requests carry, how long the queues are, and the rooms of the caches. */
    private static List<String> aftermath(CacheDirectory x) {
        List<String> seen = new ArrayList<>();
        for (int i = 0; i < FULL && x.messageCount() > 0; i++) {
            x.deliver(x.messageCount() - 1);
            seen.add(String.valueOf(x.digest()));
        }
        for (int cache = 0; cache < 4; cache++) {
            for (int line = 12; line < 16; line++) {
                seen.add(answer(x, "write(" + cache + ", " + line + ", 1)"));
                x.settle(FULL);
            }
            for (int line = 12; line < 16; line++) {
                seen.add(answer(x, "evict(" + cache + ", " + line + ")"));
            }
            seen.add(String.valueOf(x.digest()));
            x.settle(FULL);
        }
        return seen;
    }

    private static String answer(CacheDirectory x, String call) {
        Matcher parts = CALL.matcher(call);
        if (!parts.matches()) {
            throw new IllegalArgumentException("no call: " + call);
        }
        Object[] arguments = arguments(parts.group(2));
        switch (parts.group(1)) {
            case "kinds":
                return joined(Checks.kinds(x));
            case "message":
                return joined(Checks.message(x, (int) arguments[0]));
            case "lines":
                return joined(Checks.lines(x, (int) arguments[0]));
            default:
                Method method = FACE.get(parts.group(1));
                return Checks.outcome(() -> invoke(x, method, arguments)).replace("throws.", "throws ");
        }
    }

    private static Object[] arguments(String listed) {
        List<Object> all = new ArrayList<>();
        for (String each : listed.split(",")) {
            if (!each.isBlank()) {
                all.add(Integer.valueOf(each.strip()));
            }
        }
        return all.toArray();
    }

    private static String joined(List<Integer> numbers) {
        return numbers.isEmpty() ? "none" : numbers.toString().replaceAll("[\\[\\],]", "");
    }

    private static Object invoke(CacheDirectory x, Method method, Object[] arguments) {
        try {
            return method.invoke(x, arguments);
        } catch (InvocationTargetException e) {
            if (e.getCause() instanceof RuntimeException) {
                throw (RuntimeException) e.getCause();
            }
            throw new AssertionError(e.getCause());
        } catch (IllegalAccessException e) {
            throw new AssertionError(e);
        }
    }

    private static Map<String, Method> face() {
        Map<String, Method> all = new TreeMap<>();
        for (Method method : CacheDirectory.class.getDeclaredMethods()) {
            if (Modifier.isPublic(method.getModifiers())) {
                all.put(method.getName(), method);
            }
        }
        return all;
    }
}
