import java.math.BigInteger;

/** The boundary cases of promises 24 to 29, a test for each sentence. ForcedStatesTest has more of promise 28. */
final class CountBoundsTest {
    private static final String NO_INDEX = "IndexOutOfBoundsException";
    private static final String NO_CACHE = "Throws IndexOutOfBoundsException if there is no such cache";
    private static final String NO_LINE = "Throws IndexOutOfBoundsException if there is no such line";

    private static final Runs runs = new Runs("CountBoundsTest");
    private static final Checks checks = new Checks("CountBoundsTest, digest");

    public static void main(String[] args) {
        promise24Hits();
        promise25Misses();
        promise26Writebacks();
        promise27LateWritebacks();
        promise28IsInOrder();
        promise29StartsWith47();
        promise29EachLine();
        promise29EachCache();
        promise29EachMessage();
        promise29WhatIsNotThere();
        promise29WrapsAround();
        checks.end();
        runs.end();
    }

    private static void promise24Hits() {
        runs.hold("Returns how often a line was read or written in this cache without a request.",
                "hits(0) = 0; read(0, 1); settle(9); hits(0) = 0; read(0, 1); hits(0) = 1; read(0, 1); hits(0) = 2; "
                        + "hits(1) = 0; write(0, 1, 5); settle(9); hits(0) = 2; write(0, 1, 6); hits(0) = 3; "
                        + "read(1, 1); settle(9); hits(0) = 3; read(0, 1); hits(0) = 4; write(0, 1, 7); hits(0) = 4",
                "read(3, 1); settle(9); read(3, 1); hits(3) = 1; read(3, 16) = throws IndexOutOfBoundsException; "
                        + "write(3, 1, 10000) = throws IllegalArgumentException; read(3, 2); "
                        + "read(3, 1) = throws IllegalStateException; hits(3) = 1",
                "read(0, 1); settle(9); value(0, 1); evict(0, 1); hits(0) = 0");
        runs.bound(NO_CACHE, "", "hits(?) = 0", 0, 3, NO_INDEX);
    }

    private static void promise25Misses() {
        runs.hold("Returns how many requests this cache has started.",
                "misses(0) = 0; read(0, 1); misses(0) = 1; misses(1) = 0; settle(9); misses(0) = 1; read(0, 1); "
                        + "misses(0) = 1; write(0, 1, 5); misses(0) = 2; settle(9); write(0, 1, 6); misses(0) = 2; "
                        + "read(1, 1); settle(9); write(0, 1, 7); misses(0) = 3; misses(1) = 1",
                "read(3, 1); read(3, 2) = throws IllegalStateException; read(3, 16) = throws "
                        + "IndexOutOfBoundsException; write(3, 2, -1) = throws IllegalArgumentException; misses(3) = 1",
                "setRoom(3, 1, 0); write(3, 1, 5); settle(9); read(3, 2) = throws IllegalStateException; "
                        + "misses(3) = 1");
        runs.bound(NO_CACHE, "", "misses(?) = 0", 0, 3, NO_INDEX);
    }

    /** PUT of cache 0 for line 5 is on the way, and cache 1 is the owner of the line, or has been. */
    private static final String OVERTAKEN = "write(0, 5, 1); settle(9); evict(0, 5); write(1, 5, 2); deliver(1); "
            + "deliver(1); deliver(1); deliver(1); kinds() = 3;";

    private static String overtakenFor(int line) {
        return OVERTAKEN.replace(", 5", ", " + line);
    }

    private static void promise26Writebacks() {
        runs.hold("Returns how many PUT were processed whose sender was the owner.",
                "writebacks() = 0; write(0, 0, 5); settle(9); evict(0, 0); writebacks() = 0; deliver(0); "
                        + "writebacks() = 1; deliver(0); writebacks() = 1",
                "read(0, 0); settle(9); evict(0, 0); settle(9); writebacks() = 0",
                "write(0, 0, 5); settle(9); read(1, 0); deliver(0); evict(0, 0); deliver(1); queued(0) = 1; "
                        + "writebacks() = 0; settle(9); writebacks() = 1; lateWritebacks() = 0",
                "write(0, 0, 5); settle(9); write(3, 15, 5); settle(9); evict(0, 0); evict(3, 15); settle(9); "
                        + "writebacks() = 2",
                OVERTAKEN + "deliver(0); writebacks() = 0; evict(1, 5); deliver(1); writebacks() = 1");
    }

    private static void promise27LateWritebacks() {
        runs.hold("Returns how many PUT were processed whose sender was not the owner any more.",
                "lateWritebacks() = 0; write(0, 0, 5); settle(9); evict(0, 0); settle(9); lateWritebacks() = 0",
                OVERTAKEN + "lateWritebacks() = 0; deliver(0); lateWritebacks() = 1; deliver(0); lateWritebacks() = 1",
                OVERTAKEN + "evict(1, 5); deliver(1); owner(5) = -1; writebacks() = 1; deliver(0); "
                        + "lateWritebacks() = 1; writebacks() = 1",
                "write(0, 5, 1); settle(9); evict(0, 5); write(1, 5, 2); deliver(1); deliver(0); queued(5) = 1; "
                        + "lateWritebacks() = 0; settle(9); lateWritebacks() = 1",
                overtakenFor(0) + "settle(9); lateWritebacks() = 1;" + overtakenFor(15) + "settle(9); "
                        + "lateWritebacks() = 2; writebacks() = 0");
    }

    private static void promise28IsInOrder() {
        String sentence = "if it is MODIFIED in a cache, it is in no other cache; it is MODIFIED or OWNED in at most "
                + "one cache; and all caches in which it is have the same value.";
        runs.hold(sentence + " Returns whether it is in order.",
                "isInOrder(0) = true; isInOrder(15) = true",
                "read(0, 15); settle(9); isInOrder(15) = true; read(1, 15); settle(9); isInOrder(15) = true",
                "write(0, 15, 5); settle(9); isInOrder(15) = true; read(1, 15); settle(9); state(0, 15) = 2; "
                        + "isInOrder(15) = true; read(2, 15); settle(9); read(3, 15); settle(9); isInOrder(15) = true",
                "write(0, 15, 5); settle(9); evict(0, 15); isInOrder(15) = true",
                "read(0, 1); settle(9); write(1, 2, 5); settle(9); isInOrder(1) = true; isInOrder(2) = true");
        runs.bound(NO_LINE, "", "isInOrder(?) = true", 0, 15, NO_INDEX);
    }

    private static void promise29StartsWith47() {
        checks.same("\"A number d starts with 47\": a new object", new CacheDirectory().digest(),
                digestOf(new CacheDirectory()));
    }

    private static void promise29EachLine() {
        String sentence = "\"for each line its value in the memory, its owner, its sharers, 1 if the directory is busy "
                + "with it, else 0, the number of messages in its queue, and for each cache the state of the line, its "
                + "value, and its value in the victim buffer\": ";
        String two = "write(0, 0, 4); write(3, 15, 9999); settle(1000);";
        checkDigest(sentence + "the first and the last line and cache", two);
        String busy = two + "read(1, 15); read(2, 15); settle(2);";
        checkDigest(sentence + "a busy line, one message waits", busy);
        checkDigest(sentence + "a victim", busy + "evict(3, 15)");
        checkDigest(sentence + "a memory, sharers and no owner", busy + "evict(3, 15); settle(1000)");
    }

    private static void promise29EachCache() {
        String sentence = "\"for each cache the line of its open request\": ";
        for (int cache = 0; cache < 4; cache++) {
            for (int line : new int[] {0, 15}) {
                checkDigest(sentence + cache + ", " + line, "read(" + cache + ", " + line + ")");
            }
        }
    }

    private static void promise29EachMessage() {
        String sentence = "\"for each message on the way its kind, line, sender and receiver\": ";
        String[] steps = {"GET_MODIFIED", "DATA", "DONE", "none"};
        for (int i = 0; i < steps.length; i++) {
            checkDigest(sentence + steps[i], "write(0, 0, 4); settle(" + i + ")");
        }
        String race = "write(0, 0, 4); settle(9); read(1, 0); write(2, 15, 3); read(3, 0);";
        for (int i = 0; i < 20 && Runs.after(race).messageCount() > 0; i++) {
            checkDigest(sentence + "after " + race, race);
            race += "deliver(" + (Runs.after(race).messageCount() - 1) + ");";
        }
    }

    private static void promise29WhatIsNotThere() {
        String sentence = "\"its value (-1 if it is not in the cache), and its value in the victim buffer (-1 if it is "
                + "not there)\": ";
        String held = "write(0, 7, 0); settle(9);";
        checkDigest(sentence + "0 in the cache", held);
        checkDigest(sentence + "0 in the victim buffer", held + "evict(0, 7)");
        String gone = held + "evict(0, 7); settle(9)";
        checkDigest(sentence + "in neither", gone);
        checks.same(sentence + "in neither, as in a new object", Runs.after(gone).digest(),
                new CacheDirectory().digest());
    }

    /** Plays the run on an object of its own, for digestOf takes more than half of the 512 calls of one. */
    private static void checkDigest(String what, String run) {
        CacheDirectory x = Runs.after(run);
        checks.same(what, x.digest(), digestOf(x));
    }

    /** d exceeds 64 bits a few numbers after 47; before the last of them it has wrapped hundreds of times. */
    private static void promise29WrapsAround() {
        String sentence = "\"d becomes d * 31 + x, which wraps around as a 64-bit integer\": ";
        boolean negativeSeen = false;
        boolean positiveSeen = false;
        for (int value = 0; value < 40; value++) {
            CacheDirectory x = new CacheDirectory();
            x.write(0, 15, value * 250);
            x.settle(2);
            long digest = x.digest();
            checks.same(sentence + "value " + value * 250, digest, digestOf(x));
            negativeSeen |= digest < 0;
            positiveSeen |= digest > 0;
        }
        checks.same(sentence + "above the greatest long it goes on below", negativeSeen, true);
        checks.same(sentence + "and comes back above 0", positiveSeen, true);
    }

    /** The words of the promise, with numbers that do not wrap; cut to 64 bits at the end. */
    private static long digestOf(CacheDirectory x) {
        BigInteger d = BigInteger.valueOf(47);
        for (int line = 0; line < 16; line++) {
            d = next(d, x.memory(line), x.owner(line), x.sharers(line), x.isBusy(line) ? 1 : 0, x.queued(line));
            for (int cache = 0; cache < 4; cache++) {
                int state = x.state(cache, line);
                d = next(d, state, state == 0 ? -1 : x.value(cache, line), x.victimValue(cache, line));
            }
        }
        d = next(d, x.openLine(0), x.openLine(1), x.openLine(2), x.openLine(3));
        for (int i = 0; i < x.messageCount(); i++) {
            d = next(d, x.messageKind(i), x.messageLine(i), x.messageFrom(i), x.messageTo(i));
        }
        return d.longValue();
    }

    private static BigInteger next(BigInteger before, int... numbers) {
        BigInteger d = before;
        for (int x : numbers) {
            d = d.multiply(BigInteger.valueOf(31)).add(BigInteger.valueOf(x));
        }
        return d;
    }
}
