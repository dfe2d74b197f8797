/**
 * "A method that throws an exception changes nothing. If several exceptions apply, the one that is named
 * first is thrown." Here are the calls to which several apply; Runs tests of every refused call, in all
 * tests of bounds, that it changes nothing.
 */
final class RefusalsTest {
    private static final String NAMED_FIRST = "If several exceptions apply, the one that is named first is thrown: ";
    private static final String NO_INDEX = " = throws IndexOutOfBoundsException;";
    private static final String BAD_ARGUMENT = " = throws IllegalArgumentException;";
    private static final String BAD_STATE = " = throws IllegalStateException;";
    private static final String NO_ELEMENT = " = throws NoSuchElementException;";

    private static final Runs runs = new Runs("RefusalsTest");

    public static void main(String[] args) {
        promise2();
        promise3();
        promise4();
        promise5();
        promise7();
        promise11();
        changesNothingInARace();
        goesOnAsIfNotCalled();
        runs.end();
    }

    private static void promise2() {
        runs.hold(NAMED_FIRST + "no such cache, before wrong ways or victims",
                "setRoom(-1, 0, 1)" + NO_INDEX + "setRoom(4, 5, 1)" + NO_INDEX + "setRoom(-1, 1, -1)" + NO_INDEX
                        + "setRoom(4, 1, 3)" + NO_INDEX + "setRoom(4, 0, 3)" + NO_INDEX);
        String wrong = "setRoom(0, 0, 1)" + BAD_ARGUMENT + "setRoom(0, 5, 1)" + BAD_ARGUMENT + "setRoom(0, 2, -1)"
                + BAD_ARGUMENT + "setRoom(0, 2, 3)" + BAD_ARGUMENT + "setRoom(0, 1, 0)" + BAD_STATE;
        runs.hold(NAMED_FIRST + "wrong ways or victims, before a cache in use",
                "read(0, 1);" + wrong,
                "read(0, 1); settle(9);" + wrong,
                "write(0, 1, 5); settle(9); evict(0, 1);" + wrong);
    }

    private static void promise3() {
        String wrong = "read(0, -1)" + NO_INDEX + "read(0, 16)" + NO_INDEX + "read(-1, 1)" + NO_INDEX + "read(4, 1)"
                + NO_INDEX + "read(4, 16)" + NO_INDEX + "read(0, 1)" + BAD_STATE;
        runs.hold(NAMED_FIRST + "no such cache or line, before a request that is open",
                "read(0, 2);" + wrong, "read(0, 1);" + wrong);
        runs.hold(NAMED_FIRST + "no such cache or line, before a line in the victim buffer",
                "write(0, 1, 5); settle(9); evict(0, 1);" + wrong);
        runs.hold(NAMED_FIRST + "no such cache or line, before a victim buffer without room",
                "setRoom(0, 1, 0); write(0, 2, 5); settle(9);" + wrong);
    }

    private static void promise4() {
        runs.hold(NAMED_FIRST + "no such cache or line, before a wrong value",
                "write(-1, 1, -1)" + NO_INDEX + "write(4, 1, 10000)" + NO_INDEX + "write(0, -1, -1)" + NO_INDEX
                        + "write(0, 16, 10000)" + NO_INDEX + "write(4, 16, 10000)" + NO_INDEX);
        String wrong = "write(0, 16, 5)" + NO_INDEX + "write(0, -1, -1)" + NO_INDEX + "write(4, 1, 10000)" + NO_INDEX
                + "write(0, 1, -1)" + BAD_ARGUMENT + "write(0, 1, 10000)" + BAD_ARGUMENT + "write(0, 1, 0)" + BAD_STATE;
        runs.hold(NAMED_FIRST + "no such cache or line, then a wrong value, before a request that is open",
                "read(0, 2);" + wrong, "write(0, 1, 5);" + wrong, "read(0, 1); settle(9); read(0, 2);" + wrong);
        runs.hold(NAMED_FIRST + "no such cache or line, then a wrong value, before a line in the victim buffer",
                "write(0, 1, 5); settle(9); evict(0, 1);" + wrong);
        runs.hold(NAMED_FIRST + "no such cache or line, then a wrong value, before a victim buffer without room",
                "setRoom(0, 1, 0); write(0, 2, 5); settle(9);" + wrong);
    }

    private static void promise5() {
        runs.hold(NAMED_FIRST + "no such cache or line, before a line that is not in the cache",
                "evict(-1, 1)" + NO_INDEX + "evict(4, 1)" + NO_INDEX + "evict(0, -1)" + NO_INDEX + "evict(0, 16)"
                        + NO_INDEX + "evict(0, 1)" + NO_ELEMENT);
        String wrong = "evict(0, 16)" + NO_INDEX + "evict(4, 1)" + NO_INDEX + "evict(0, 1)" + NO_ELEMENT;
        runs.hold(NAMED_FIRST + "a line that is not in the cache, before a request for it that is open",
                "read(0, 1);" + wrong, "write(0, 1, 5); deliver(0);" + wrong,
                "read(0, 1); settle(9); write(0, 1, 2); write(1, 1, 3); deliver(1); deliver(1); openLine(0) = 1;"
                        + wrong);
        runs.hold(NAMED_FIRST + "a line that is not in the cache, before a victim buffer without room",
                "setRoom(0, 2, 0);" + wrong,
                "write(0, 1, 5); settle(9); evict(0, 1);" + wrong);
        runs.hold(NAMED_FIRST + "no such line, before a victim buffer without room",
                "setRoom(0, 2, 0); write(0, 1, 5); settle(9); evict(0, 16)" + NO_INDEX + "evict(4, 1)" + NO_INDEX
                        + "evict(0, 2)" + NO_ELEMENT + "evict(0, 1)" + BAD_STATE);
    }

    private static void promise7() {
        runs.hold(NAMED_FIRST + "no such cache or line, before a line that is not in the cache",
                "value(-1, 1)" + NO_INDEX + "value(4, 1)" + NO_INDEX + "value(0, -1)" + NO_INDEX + "value(0, 16)"
                        + NO_INDEX + "value(0, 1)" + NO_ELEMENT);
    }

    private static void promise11() {
        runs.hold(NAMED_FIRST + "no such cache, before no such index",
                "lineAt(-1, 0)" + NO_INDEX + "lineAt(4, 0)" + NO_INDEX + "lineAt(-1, -1)" + NO_INDEX
                        + "lineAt(4, 4)" + NO_INDEX + "lineAt(3, 0)" + NO_ELEMENT);
    }

    /** Caches 0 and 1 have open requests, 0 a victim too; GRANT, INVALIDATE and PUT are on the way; one waits. */
    private static final String RACE = "setRoom(0, 2, 1); write(0, 3, 30); settle(9); write(0, 4, 40); settle(9); "
            + "read(1, 4); settle(9); evict(0, 3); write(0, 4, 41); write(1, 5, 50); read(2, 4); deliver(1); "
            + "deliver(2) = 4; queued(4) = 1; kinds() = 3 2 10 6;";

    private static void changesNothingInARace() {
        String[] refused = {
            "setRoom(0, 1, 2)" + BAD_STATE, "setRoom(3, 5, 2)" + BAD_ARGUMENT, "setRoom(3, 1, 3)" + BAD_ARGUMENT,
            "setRoom(4, 1, 2)" + NO_INDEX, "read(0, 4)" + BAD_STATE, "read(0, 3)" + BAD_STATE, "read(0, 7)" + BAD_STATE,
            "read(3, 16)" + NO_INDEX, "write(0, 4, 1)" + BAD_STATE, "write(1, 5, 1)" + BAD_STATE,
            "write(3, 1, 10000)" + BAD_ARGUMENT, "write(-1, 1, 1)" + NO_INDEX, "evict(0, 4)" + BAD_STATE,
            "evict(0, 3)" + NO_ELEMENT, "evict(0, -1)" + NO_INDEX, "state(0, 16)" + NO_INDEX, "value(0, "
                    + "3)" + NO_ELEMENT,
            "value(4, 3)" + NO_INDEX, "victimValue(0, 16)" + NO_INDEX, "openLine(4)" + NO_INDEX,
            "latestRead(-1)" + NO_INDEX, "lineAt(0, 1)" + NO_ELEMENT, "lineAt(4, 0)" + NO_INDEX, "owner(16)" + NO_INDEX,
            "sharers(-1)" + NO_INDEX, "isBusy(16)" + NO_INDEX, "queued(-1)" + NO_INDEX, "memory(16)" + NO_INDEX,
            "messageKind(4)" + NO_INDEX, "messageLine(-1)" + NO_INDEX, "messageFrom(4)" + NO_INDEX,
            "messageTo(-1)" + NO_INDEX, "deliver(4)" + NO_INDEX, "deliver(-1)" + NO_INDEX, "settle(-1)" + BAD_ARGUMENT,
            "settle(1001)" + BAD_ARGUMENT, "hits(4)" + NO_INDEX, "misses(-1)" + NO_INDEX, "isInOrder(16)" + NO_INDEX};
        for (String each : refused) {
            runs.hold("A method that throws an exception changes nothing.", RACE + each);
        }
    }

    private static void goesOnAsIfNotCalled() {
        runs.hold("A method that throws an exception changes nothing.",
                RACE + "write(0, 4, 99)" + BAD_STATE + "write(1, 5, 99)" + BAD_STATE + "evict(0, 4)" + BAD_STATE
                        + "read(2, 9)" + BAD_STATE + "settle(50) = 12; value(0, 4) = 41; value(1, 5) = 50; "
                        + "latestRead(2) = 41; memory(3) = 30; misses(0) = 3; misses(1) = 2; hits(0) = 0",
                "write(0, 1, 5); settle(9); setRoom(0, 4, 2)" + BAD_STATE + "write(0, 2, 6); settle(9); "
                        + "write(0, 3, 7); lines(0) = 2; read(0, 4)" + BAD_STATE + "settle(9); lines(0) = 2 3; "
                        + "evict(0, 2) = 3; evict(0, 3)" + BAD_STATE + "settle(9); evict(0, 3) = 3; settle(9); "
                        + "setRoom(0, 2, 1) = false",
                "write(0, 1, 5); settle(9); write(0, 1, 10000)" + BAD_ARGUMENT + "value(0, 1) = 5; write(0, 2, 6); "
                        + "write(0, 1, 7)" + BAD_STATE + "value(0, 1) = 5; settle(9); lines(0) = 1 2");
    }
}
