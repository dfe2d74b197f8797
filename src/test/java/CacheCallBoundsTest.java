/** The boundary cases of promises 1 to 11, a test for each "Returns" and "Throws" sentence. */
final class CacheCallBoundsTest {
    private static final String NO_INDEX = "IndexOutOfBoundsException";
    private static final String BAD_ARGUMENT = "IllegalArgumentException";
    private static final String NO_CACHE = "Throws IndexOutOfBoundsException if there is no such cache";
    private static final String NO_CACHE_OR_LINE = "Throws IndexOutOfBoundsException if there is no such cache or line";
    private static final String NO_LINE_HELD = "Throws NoSuchElementException if the line is not in the cache";

    private static final Runs runs = new Runs("CacheCallBoundsTest");

    public static void main(String[] args) {
        promise1ANewObject();
        promise2Returns();
        promise2NoSuchCache();
        promise2WaysAndVictims();
        promise2InUse();
        promise3Read();
        promise3NoSuchCacheOrLine();
        promise3ARequestIsOpen();
        promise3InTheVictimBuffer();
        promise3NoRoomInTheVictimBuffer();
        promise4Write();
        promise4Returns();
        promise4NoSuchCacheOrLine();
        promise4Value();
        promise4AsForRead();
        promise5Evict();
        promise5Returns();
        promise5NoSuchCacheOrLine();
        promise5NotInTheCache();
        promise5ARequestForThisLineIsOpen();
        promise5NoRoomInTheVictimBuffer();
        promise6State();
        promise7Value();
        promise7NotInTheCache();
        promise8VictimValue();
        promise9OpenLine();
        promise10LatestRead();
        promise11LineAt();
        promise11NoSuchIndex();
        runs.end();
    }

    private static String inEachCache(String calls) {
        StringBuilder all = new StringBuilder();
        for (int cache = 0; cache < 4; cache++) {
            all.append(calls.replace("CACHE", String.valueOf(cache))).append(";");
        }
        return all.toString();
    }

    /** Line 5 is SHARED in all caches. */
    private static final String ALL_READ_5 = inEachCache("read(CACHE, 5); settle(9)");
    /** Lines 0 and 15 are in cache 1. */
    private static final String FIRST_AND_LAST_LINE = "write(1, 0, 4); settle(9); read(1, 15); settle(9);";

    private static void promise1ANewObject() {
        runs.hold("Creates the model: all caches are empty, no message is on the way.",
                "messageCount() = 0; settle(1000) = 0; deliver(0) = throws IndexOutOfBoundsException",
                inEachCache("lines(CACHE) = none; lineAt(CACHE, 0) = throws NoSuchElementException"),
                inEachCache("openLine(CACHE) = -1; latestRead(CACHE) = -1; hits(CACHE) = 0; misses(CACHE) = 0"),
                "writebacks() = 0; lateWritebacks() = 0");
        for (int line = 0; line < 16; line++) {
            runs.hold("all caches are empty", inEachCache(("state(CACHE, %d) = 0; victimValue(CACHE, %d) = -1; "
                    + "value(CACHE, %d) = throws NoSuchElementException").replace("%d", "" + line)));
        }
    }

    private static void promise2Returns() {
        runs.hold("Returns whether the room is another one than before.",
                inEachCache("setRoom(CACHE, 2, 1) = false"),
                inEachCache("setRoom(CACHE, 1, 1) = true"),
                inEachCache("setRoom(CACHE, 2, 0) = true"),
                inEachCache("setRoom(CACHE, 4, 2) = true; setRoom(CACHE, 4, 2) = false; setRoom(CACHE, 3, 2) = true; "
                        + "setRoom(CACHE, 3, 1) = true; setRoom(CACHE, 3, 1) = false; setRoom(CACHE, 1, 3) = throws "
                        + "IllegalArgumentException; setRoom(CACHE, 3, 1) = false; setRoom(CACHE, 1, 2) = true"),
                "setRoom(0, 4, 2) = true; setRoom(1, 2, 1) = false; setRoom(1, 4, 2) = true; setRoom(0, 4, 2) = false");
    }

    private static void promise2NoSuchCache() {
        runs.bound(NO_CACHE, "", "setRoom(?, 3, 1) = true", 0, 3, NO_INDEX);
    }

    private static void promise2WaysAndVictims() {
        String sentence = "Throws IllegalArgumentException if ways is not 1 to 4, or victims is not 0 to 2";
        runs.bound(sentence, "", "setRoom(0, ?, 0) = true", 1, 4, BAD_ARGUMENT);
        runs.bound(sentence, "", "setRoom(3, ?, 2) = true", 1, 4, BAD_ARGUMENT);
        runs.bound(sentence, "", "setRoom(0, 1, ?) = true", 0, 2, BAD_ARGUMENT);
        runs.bound(sentence, "", "setRoom(3, 4, ?) = true", 0, 2, BAD_ARGUMENT);
        runs.hold(sentence,
                "setRoom(0, 0, 3) = throws IllegalArgumentException; setRoom(0, 2, 1) = false",
                "setRoom(0, 5, 0) = throws IllegalArgumentException; setRoom(0, 2, 1) = false",
                "setRoom(0, 4, -1) = throws IllegalArgumentException; setRoom(0, 2, 1) = false",
                "setRoom(0, 4, 3) = throws IllegalArgumentException; setRoom(0, 2, 1) = false");
    }

    private static void promise2InUse() {
        String sentence = "Throws IllegalStateException if a line is in the cache or in its victim buffer, "
                + "or a request is open";
        String refused = "setRoom(0, 3, 2) = throws IllegalStateException;";
        runs.hold(sentence + ": a request is open",
                "read(0, 1);" + refused + "deliver(0);" + refused,
                "write(0, 1, 5);" + refused + "deliver(0);" + refused);
        runs.hold(sentence + ": a request is open whose line was in the cache",
                "read(0, 6); settle(9); write(0, 6, 2); write(1, 6, 3); deliver(1); deliver(1); lines(0) = none;"
                        + refused);
        runs.hold(sentence + ": a line is in the cache",
                "read(0, 1); settle(9);" + refused + "evict(0, 1); setRoom(0, 3, 2) = true",
                "read(0, 1); settle(2); kinds() = 4;" + refused + "evict(0, 1); setRoom(0, 3, 2) = true",
                "read(0, 1); settle(9); write(1, 1, 5); settle(1); deliver(1); lines(0) = 1;" + refused
                        + "deliver(0); setRoom(0, 3, 2) = true");
        runs.hold(sentence + ": a line is in its victim buffer",
                "write(0, 1, 5); settle(9); evict(0, 1);" + refused + "deliver(0);" + refused
                        + "deliver(0); setRoom(0, 3, 2) = true",
                "setRoom(0, 2, 2); write(0, 1, 5); settle(9); write(0, 2, 5); settle(9); evict(0, 1); evict(0, 2); "
                        + "settle(3); setRoom(0, 3, 2) = throws IllegalStateException; settle(1); "
                        + "setRoom(0, 3, 2) = true");
        runs.hold(sentence + ": also if the room is the same",
                "read(0, 1); setRoom(0, 2, 1) = throws IllegalStateException; settle(9); "
                        + "setRoom(0, 2, 1) = throws IllegalStateException; evict(0, 1); setRoom(0, 2, 1) = false");
        runs.hold(sentence + ": of another cache it does not matter",
                "read(0, 1); write(1, 2, 3); settle(9); evict(1, 2); read(2, 3); setRoom(3, 3, 2) = true");
    }

    private static void promise3Read() {
        runs.hold("If it is in the cache, it is used; otherwise a request for reading is started. "
                + "Returns the value, if the line is in the cache; -1 if a request was started.",
                "read(0, 1) = -1; openLine(0) = 1; kinds() = 1; settle(9); read(0, 1) = 0; openLine(0) = -1; "
                        + "kinds() = none; misses(0) = 1; hits(0) = 1",
                "write(0, 1, 9999); settle(9); read(0, 1) = 9999; state(0, 1) = 3; kinds() = none",
                "write(0, 1, 8); settle(9); read(1, 1) = -1; settle(9); read(0, 1) = 8; read(1, 1) = 8; "
                        + "state(0, 1) = 2",
                "write(0, 1, 8); settle(9); evict(0, 1); settle(9); read(0, 1) = -1; settle(9); read(0, 1) = 8",
                "read(0, 1); settle(9); write(1, 1, 8); settle(9); read(0, 1) = -1; settle(9); read(0, 1) = 8");
    }

    private static void promise3NoSuchCacheOrLine() {
        runs.bound(NO_CACHE_OR_LINE, "", "read(?, 5) = -1", 0, 3, NO_INDEX);
        runs.bound(NO_CACHE_OR_LINE, ALL_READ_5, "read(?, 5) = 0", 0, 3, NO_INDEX);
        runs.bound(NO_CACHE_OR_LINE, "", "read(1, ?) = -1", 0, 15, NO_INDEX);
    }

    private static void promise3ARequestIsOpen() {
        String refused = "read(0, 1) = throws IllegalStateException; read(0, 2) = throws IllegalStateException; "
                + "read(0, 3) = throws IllegalStateException;";
        runs.hold("Throws IllegalStateException if a request of this cache is open",
                "read(0, 1); settle(9); read(0, 2);" + refused + "deliver(0);" + refused
                        + "deliver(0); read(0, 1) = 0; read(0, 2) = 0; read(0, 3) = -1",
                "write(0, 1, 5); settle(9); write(0, 2, 6);" + refused + "deliver(0);" + refused
                        + "deliver(0); read(0, 1) = 5; read(0, 2) = 6; read(0, 3) = -1",
                "read(0, 1); settle(9); write(0, 1, 5);" + refused + "settle(2); read(0, 1) = 5",
                "read(1, 1); write(2, 1, 4); read(3, 1); read(0, 1) = -1");
    }

    private static void promise3InTheVictimBuffer() {
        String refused = "read(0, 1) = throws IllegalStateException;";
        String evicted = "write(0, 1, 5); settle(9); evict(0, 1);";
        runs.hold("Throws IllegalStateException if the line is in its victim buffer",
                evicted + refused + "deliver(0);" + refused + "deliver(0); read(0, 1) = -1",
                evicted + "read(1, 1) = -1; read(0, 2) = -1",
                "setRoom(0, 2, 2); write(0, 2, 6); settle(9);" + evicted + "evict(0, 2);" + refused
                        + "read(0, 2) = throws IllegalStateException; settle(3); read(0, 2) = throws "
                        + "IllegalStateException; settle(1); read(0, 2) = -1");
    }

    /** Cache 0 has two ways: line 1, MODIFIED, is to go first, then line 2; line 9 is its one victim. */
    private static final String NO_ROOM = "write(0, 9, 3); settle(9); write(0, 1, 5); settle(9); write(0, 2, 6); "
            + "deliver(1); deliver(1); deliver(1); kinds() = 3; lines(0) = 1 2; victimValue(0, 9) = 3;";

    private static void promise3NoRoomInTheVictimBuffer() {
        String sentence = "Throws IllegalStateException if a request would have to be started and a line would have "
                + "to go to the victim buffer, which has no room";
        String refused = "read(0, 4) = throws IllegalStateException;";
        runs.hold(sentence,
                NO_ROOM + refused + "deliver(0);" + refused + "deliver(0); read(0, 4) = -1; victimValue(0, 1) = 5",
                "setRoom(0, 1, 0); write(0, 1, 5); settle(9);" + refused,
                "setRoom(0, 1, 1); write(0, 1, 5); settle(9); read(0, 4) = -1; victimValue(0, 1) = 5",
                "setRoom(0, 1, 0); write(0, 1, 5); settle(9); read(1, 1); settle(9); state(0, 1) = 2;" + refused);
        String four = "setRoom(0, 4, 2); write(0, 0, 5); settle(9); write(0, 1, 6); settle(9); write(0, 2, 7); "
                + "settle(9); write(0, 3, 8); settle(9); evict(0, 0); ";
        String refill = "read(0, 9); deliver(1); deliver(1); deliver(1);";
        runs.hold(sentence + ": room for one more of two, then for none",
                four + refill + "lines(0) = 1 2 3 9; read(0, 4) = -1; victimValue(0, 0) = 5; victimValue(0, 1) = 6",
                four + "evict(0, 1);" + refill.replace("1)", "2)") + "write(0, 10, 1); deliver(2); deliver(2); "
                        + "deliver(2); lines(0) = 2 3 9 10;" + refused);
        runs.hold(sentence + ": no request would have to be started",
                NO_ROOM + "read(0, 1) = 5; read(0, 2) = 6");
        runs.hold(sentence + ": no line would have to go, there is a way",
                "setRoom(0, 2, 0); write(0, 1, 5); settle(9); read(0, 4) = -1");
        runs.hold(sentence + ": the line that goes is SHARED",
                "setRoom(0, 1, 0); read(0, 1); settle(9); read(0, 4) = -1; kinds() = 1",
                "setRoom(0, 2, 0); read(0, 1); settle(9); write(0, 2, 5); settle(9); read(0, 4) = -1; lines(0) = 2",
                "setRoom(0, 2, 0); read(0, 1); settle(9); write(0, 2, 5); settle(9); read(0, 1) = 0;" + refused);
    }

    private static void promise4Write() {
        runs.hold("If it is in the cache MODIFIED, it gets the value, and is used; otherwise a request for writing is "
                + "started (a line that is in the cache SHARED or OWNED stays there meanwhile).",
                "write(0, 1, 5); settle(9); write(0, 2, 6); settle(9); write(0, 1, 7); value(0, 1) = 7; "
                        + "state(0, 1) = 3; lines(0) = 2 1; kinds() = none; openLine(0) = -1",
                "write(0, 1, 5); openLine(0) = 1; kinds() = 2; state(0, 1) = 0",
                "read(0, 1); settle(9); write(0, 1, 5); openLine(0) = 1; kinds() = 2; state(0, 1) = 1; "
                        + "value(0, 1) = 0; deliver(0); state(0, 1) = 1; value(0, 1) = 0; deliver(0); state(0, 1) = 3; "
                        + "value(0, 1) = 5",
                "write(0, 1, 5); settle(9); read(1, 1); settle(9); write(0, 1, 6); openLine(0) = 1; kinds() = 2; "
                        + "state(0, 1) = 2; value(0, 1) = 5; settle(3); state(0, 1) = 2; value(0, 1) = 5; settle(1); "
                        + "state(0, 1) = 3; value(0, 1) = 6");
    }

    private static void promise4Returns() {
        runs.hold("Returns whether it was written at once.",
                "write(0, 1, 5) = false; settle(9); write(0, 1, 6) = true; write(0, 1, 6) = true",
                "read(0, 1); settle(9); write(0, 1, 5) = false",
                "write(0, 1, 5); settle(9); read(1, 1); settle(9); write(0, 1, 6) = false; settle(9); "
                        + "write(0, 1, 7) = true",
                "write(0, 1, 5); settle(2); kinds() = 4; write(0, 1, 6) = true");
    }

    private static void promise4NoSuchCacheOrLine() {
        runs.bound(NO_CACHE_OR_LINE, "", "write(?, 5, 1) = false", 0, 3, NO_INDEX);
        runs.bound(NO_CACHE_OR_LINE, "", "write(1, ?, 1) = false", 0, 15, NO_INDEX);
        runs.bound(NO_CACHE_OR_LINE, "write(1, 0, 4); settle(9); write(1, 15, 4); settle(9)", "write(1, ?, 5) = true",
                0, 15, NO_INDEX);
    }

    private static void promise4Value() {
        String sentence = "Throws IllegalArgumentException if value is not 0 to 9999";
        runs.bound(sentence, "", "write(0, 1, ?) = false", 0, 9999, BAD_ARGUMENT);
        runs.bound(sentence, "read(0, 1); settle(9)", "write(0, 1, ?) = false", 0, 9999, BAD_ARGUMENT);
        runs.bound(sentence, "write(0, 1, 5); settle(9)", "write(0, 1, ?) = true", 0, 9999, BAD_ARGUMENT);
    }

    private static void promise4AsForRead() {
        String refused = "write(0, 1, 4) = throws IllegalStateException;";
        String allRefused = refused + "write(0, 2, 4) = throws IllegalStateException; "
                + "write(0, 3, 4) = throws IllegalStateException;";
        runs.hold("Throws IllegalStateException as for read: if a request of this cache is open",
                "write(0, 1, 5); settle(9); read(0, 2);" + allRefused + "deliver(0);" + allRefused
                        + "deliver(0); write(0, 1, 4) = true; write(0, 2, 4) = false",
                "write(0, 1, 5); settle(9); write(0, 2, 6);" + allRefused + "settle(2); write(0, 2, 4) = true");
        String evicted = "write(0, 1, 5); settle(9); evict(0, 1);";
        runs.hold("Throws IllegalStateException as for read: or the line is in its victim buffer",
                evicted + refused + "deliver(0);" + refused + "deliver(0); write(0, 1, 4) = false",
                evicted + "write(1, 1, 4) = false; write(0, 2, 4) = false");
        String noRoom = "write(0, 4, 4) = throws IllegalStateException;";
        runs.hold("Throws IllegalStateException as for read: or a request would have to be started and a line would "
                + "have to go to the victim buffer, which has no room",
                NO_ROOM + noRoom + "deliver(0);" + noRoom + "deliver(0); write(0, 4, 4) = false",
                NO_ROOM + "write(0, 1, 7) = true; write(0, 2, 8) = true",
                "setRoom(0, 1, 0); write(0, 1, 5); settle(9); read(1, 1); settle(9);" + noRoom
                        + "write(0, 1, 6) = false; state(0, 1) = 2",
                "setRoom(0, 1, 0); read(0, 1); settle(9); write(0, 1, 6) = false; state(0, 1) = 1",
                "setRoom(0, 1, 0); read(0, 1); settle(9); write(0, 4, 6) = false; state(0, 1) = 0");
    }

    private static void promise5Evict() {
        runs.hold("Removes a line from a cache, as it is removed when a request needs its way.",
                "read(0, 1); settle(9); evict(0, 1); state(0, 1) = 0; victimValue(0, 1) = -1; kinds() = none",
                "write(0, 1, 5); settle(9); evict(0, 1); state(0, 1) = 0; victimValue(0, 1) = 5; message(0) = 3 1 0 -1",
                "write(0, 1, 5); settle(9); read(1, 1); settle(9); evict(0, 1); state(0, 1) = 0; "
                        + "victimValue(0, 1) = 5; message(0) = 3 1 0 -1; state(1, 1) = 1",
                "read(0, 1); settle(9); read(0, 2); settle(9); evict(0, 2); lines(0) = 1; read(0, 3) = -1; "
                        + "lines(0) = 1");
    }

    private static void promise5Returns() {
        runs.hold("Returns the state that the line had.",
                "read(0, 1); settle(9); evict(0, 1) = 1",
                "write(0, 1, 5); settle(9); read(1, 1); settle(9); evict(0, 1) = 2",
                "write(0, 1, 5); settle(9); evict(0, 1) = 3");
    }

    private static void promise5NoSuchCacheOrLine() {
        runs.bound(NO_CACHE_OR_LINE, ALL_READ_5, "evict(?, 5) = 1", 0, 3, NO_INDEX);
        runs.bound(NO_CACHE_OR_LINE, FIRST_AND_LAST_LINE, "evict(1, ?)", 0, 15, NO_INDEX);
    }

    private static void promise5NotInTheCache() {
        String refused = "evict(0, 1) = throws NoSuchElementException;";
        runs.hold(NO_LINE_HELD,
                refused + "read(0, 1);" + refused + "deliver(0);" + refused + "deliver(0); evict(0, 1) = 1;" + refused,
                "read(1, 1); settle(9);" + refused,
                "write(0, 1, 5); settle(9); evict(0, 1);" + refused + "settle(9);" + refused,
                "read(0, 1); settle(9); write(1, 1, 5); settle(9);" + refused);
    }

    private static void promise5ARequestForThisLineIsOpen() {
        String refused = "evict(0, 1) = throws IllegalStateException;";
        runs.hold("Throws IllegalStateException if a request of this cache for this line is open",
                "read(0, 1); settle(9); write(0, 1, 5);" + refused + "deliver(0);" + refused + "deliver(0); "
                        + "evict(0, 1) = 3",
                "write(0, 1, 5); settle(9); read(1, 1); settle(9); write(0, 1, 6);" + refused + "settle(3);" + refused
                        + "settle(1); evict(0, 1) = 3",
                "read(0, 1); settle(9); read(0, 2); evict(0, 1) = 1",
                "read(0, 1); settle(9); write(1, 1, 2); evict(0, 1) = 1");
    }

    private static void promise5NoRoomInTheVictimBuffer() {
        String three = "write(0, 1, 5); settle(9); write(0, 2, 6); settle(9); write(0, 3, 7); settle(9);";
        runs.hold("Throws IllegalStateException if the line would have to go to the victim buffer, which has no room",
                "setRoom(0, 3, 0);" + three + "evict(0, 1) = throws IllegalStateException",
                "setRoom(0, 3, 1);" + three + "evict(0, 1) = 3; evict(0, 2) = throws IllegalStateException; "
                        + "deliver(0); "
                        + "evict(0, 2) = throws IllegalStateException; deliver(0); evict(0, 2) = 3",
                "setRoom(0, 3, 2);" + three + "evict(0, 1) = 3; evict(0, 2) = 3; evict(0, 3) = throws "
                        + "IllegalStateException; settle(2); evict(0, 3) = throws IllegalStateException; deliver(1); "
                        + "evict(0, 3) = 3",
                "setRoom(0, 3, 0);" + three + "read(1, 2); settle(9); state(0, 2) = 2; "
                        + "evict(0, 2) = throws IllegalStateException",
                "setRoom(0, 3, 0); read(0, 1); settle(9); evict(0, 1) = 1",
                "setRoom(0, 3, 1);" + "read(0, 4); settle(9); write(0, 1, 5); settle(9); evict(0, 1) = 3; "
                        + "evict(0, 4) = 1");
    }

    private static void promise6State() {
        runs.hold("Returns the state of the line in this cache, 0 to 3.",
                "state(3, 15) = 0; read(3, 15); settle(9); state(3, 15) = 1; state(2, 15) = 0; state(3, 14) = 0; "
                        + "write(3, 15, 1); settle(9); state(3, 15) = 3; read(0, 15); settle(9); state(3, 15) = 2; "
                        + "state(0, 15) = 1; evict(3, 15); state(3, 15) = 0");
        runs.bound(NO_CACHE_OR_LINE, ALL_READ_5, "state(?, 5) = 1", 0, 3, NO_INDEX);
        runs.bound(NO_CACHE_OR_LINE, "", "state(1, ?) = 0", 0, 15, NO_INDEX);
    }

    private static void promise7Value() {
        runs.hold("Returns the value of the line in this cache.",
                "read(0, 0); settle(9); value(0, 0) = 0",
                "write(3, 15, 9999); settle(9); value(3, 15) = 9999; write(3, 15, 0); value(3, 15) = 0",
                "write(3, 15, 4); settle(9); read(1, 15); settle(9); value(1, 15) = 4; value(3, 15) = 4");
        runs.bound(NO_CACHE_OR_LINE, ALL_READ_5, "value(?, 5) = 0", 0, 3, NO_INDEX);
        runs.bound(NO_CACHE_OR_LINE, FIRST_AND_LAST_LINE, "value(1, ?)", 0, 15, NO_INDEX);
    }

    private static void promise7NotInTheCache() {
        String refused = "value(0, 1) = throws NoSuchElementException;";
        runs.hold(NO_LINE_HELD,
                refused + "write(0, 1, 5);" + refused + "deliver(0);" + refused + "deliver(0); value(0, 1) = 5",
                "write(0, 1, 5); settle(9); evict(0, 1);" + refused,
                "write(0, 1, 5); settle(9); write(1, 1, 6); settle(9);" + refused,
                "read(0, 1); settle(9); evict(0, 1);" + refused);
    }

    private static void promise8VictimValue() {
        runs.hold("Returns the value of the line in the victim buffer of this cache; -1 if it is not there.",
                "victimValue(0, 0) = -1; victimValue(3, 15) = -1",
                "write(0, 0, 0); settle(9); victimValue(0, 0) = -1; evict(0, 0); victimValue(0, 0) = 0; "
                        + "victimValue(0, 1) = -1; victimValue(1, 0) = -1; deliver(0); victimValue(0, 0) = 0; "
                        + "deliver(0); victimValue(0, 0) = -1",
                "write(3, 15, 9999); settle(9); evict(3, 15); victimValue(3, 15) = 9999",
                "read(0, 0); settle(9); evict(0, 0); victimValue(0, 0) = -1");
        runs.bound(NO_CACHE_OR_LINE, "", "victimValue(?, 5) = -1", 0, 3, NO_INDEX);
        runs.bound(NO_CACHE_OR_LINE, "", "victimValue(1, ?) = -1", 0, 15, NO_INDEX);
    }

    private static void promise9OpenLine() {
        runs.hold("Returns the line of its open request; -1 if none is open.",
                inEachCache("openLine(CACHE) = -1"),
                "read(0, 0); openLine(0) = 0; openLine(1) = -1; deliver(0); openLine(0) = 0; deliver(0); "
                        + "openLine(0) = -1",
                "write(3, 15, 5); openLine(3) = 15; deliver(0); openLine(3) = 15; deliver(0); openLine(3) = -1",
                "read(0, 0); settle(9); read(0, 0); openLine(0) = -1; write(0, 0, 1); openLine(0) = 0",
                "read(0, 0); read(0, 1) = throws IllegalStateException; openLine(0) = 0");
        runs.bound(NO_CACHE, "", "openLine(?) = -1", 0, 3, NO_INDEX);
    }

    private static void promise10LatestRead() {
        runs.hold("Returns the result of its latest completed request for reading; -1 if there was none.",
                inEachCache("latestRead(CACHE) = -1"),
                "read(0, 0); latestRead(0) = -1; deliver(0); latestRead(0) = -1; deliver(0); latestRead(0) = 0; "
                        + "latestRead(1) = -1",
                "write(0, 0, 9999); settle(9); latestRead(0) = -1; read(0, 0); latestRead(0) = -1; read(1, 0); "
                        + "settle(9); latestRead(1) = 9999; latestRead(0) = -1",
                "write(0, 0, 7); settle(9); read(1, 0); settle(9); write(1, 0, 8); settle(9); latestRead(1) = 7; "
                        + "write(1, 0, 9) = true; read(1, 0) = 9; latestRead(1) = 7; read(1, 1); latestRead(1) = 7; "
                        + "settle(9); latestRead(1) = 0");
        runs.bound(NO_CACHE, "", "latestRead(?) = -1", 0, 3, NO_INDEX);
    }

    private static void promise11LineAt() {
        runs.hold("an index among the lines in the cache, from 0; the one whose latest use is the longest ago comes "
                + "first. Returns the line.",
                "read(0, 0); settle(9); lineAt(0, 0) = 0; read(0, 15); settle(9); lineAt(0, 0) = 0; lineAt(0, 1) = 15; "
                        + "read(0, 0); lineAt(0, 0) = 15; lineAt(0, 1) = 0",
                "setRoom(3, 4, 0); read(3, 7); settle(9); read(3, 6); settle(9); read(3, 5); settle(9); read(3, 4); "
                        + "settle(9); lineAt(3, 0) = 7; lineAt(3, 1) = 6; lineAt(3, 2) = 5; lineAt(3, 3) = 4");
        runs.bound(NO_CACHE, ALL_READ_5, "lineAt(?, 0) = 5", 0, 3, NO_INDEX);
    }

    private static void promise11NoSuchIndex() {
        String sentence = "Throws NoSuchElementException if there is no such index";
        String noElement = "NoSuchElementException";
        String filled = "setRoom(0, 4, 2);";
        for (int count = 1; count <= 4; count++) {
            filled += "write(0, " + count + ", 5); settle(9);";
            runs.bound(sentence, filled, "lineAt(0, ?)", 0, count - 1, noElement);
        }
        runs.bound(sentence + ": one was evicted", filled + "evict(0, 1)", "lineAt(0, ?)", 0, 2, noElement);
        runs.hold(sentence + ": an empty cache",
                "lineAt(0, 0) = throws NoSuchElementException; lineAt(0, -1) = throws NoSuchElementException",
                "read(0, 1); lineAt(0, 0) = throws NoSuchElementException; settle(2); lineAt(0, 0) = 1; "
                        + "lineAt(0, 1) = throws NoSuchElementException; evict(0, 1); "
                        + "lineAt(0, 0) = throws NoSuchElementException");
    }
}
