/**
 * The boundary cases of the document's beginning and of its Description up to "Starting a request",
 * a test for each sentence.
 */
final class PartsBoundsTest {
    private static final String NO_INDEX = "IndexOutOfBoundsException";
    private static final String BAD_ARGUMENT = "IllegalArgumentException";

    private static final Runs runs = new Runs("PartsBoundsTest");

    public static void main(String[] args) {
        callsOfOneObject();
        cachesAndLines();
        valuesOfALine();
        theMemoryAtFirst();
        waysOfACache();
        roomOfAVictimBuffer();
        statesOfALine();
        aLineInAVictimBuffer();
        oneOpenRequest();
        theValueToBeWritten();
        anOpenRequestTakesAWay();
        theDirectoryAtFirst();
        orderByLatestUse();
        whatIsAUse();
        whenALineIsRemoved();
        theLineLongestUnused();
        whereARemovedLineGoes();
        theRequestComesLast();
        runs.end();
    }

    private static void callsOfOneObject() {
        String sentence = "An object is used for at most 512 calls after it has been made";
        StringBuilder calls = new StringBuilder();
        for (int i = 0; i < 255; i++) {
            calls.append("write(").append(i % 4).append(", ").append(i % 16).append(", ").append(i).append(")");
            calls.append(" = false; settle(1000) = ").append(i < 8 ? 3 : 5).append(";");
        }
        String calls510 = calls.toString();
        runs.hold(sentence, calls510 + "misses(2) = 64; misses(3) = 63");
        runs.hold(sentence, calls510 + "writebacks() = 247; lateWritebacks() = 0");
        runs.hold(sentence, calls510 + "write(3, 15, 255) = false; settle(1000) = 5");
        runs.hold(sentence, calls510 + "memory(5) = 245; value(2, 14) = 254");
        runs.hold(sentence, calls510 + "lineAt(2, 0) = 10; lineAt(2, 1) = 14");
        StringBuilder hits = new StringBuilder("write(0, 0, 0) = false; settle(3) = 3;");
        for (int i = 1; i <= 509; i++) {
            hits.append("write(0, 0, ").append(i).append(") = true;");
        }
        runs.hold(sentence, hits + "hits(0) = 509");
        runs.hold(sentence, hits + "read(0, 0) = 509");
        runs.hold(sentence, hits + "evict(0, 0) = 3");
    }

    private static void cachesAndLines() {
        String sentence = "There are 4 caches, numbered from 0, and 16 lines, numbered from 0.";
        runs.bound(sentence, "", "state(?, 15) = 0", 0, 3, NO_INDEX);
        runs.bound(sentence, "", "state(3, ?) = 0", 0, 15, NO_INDEX);
        StringBuilder run = new StringBuilder();
        for (int cache = 0; cache < 4; cache++) {
            run.append("setRoom(").append(cache).append(", 4, 1);");
        }
        for (int line = 0; line < 16; line++) {
            run.append("write(").append(line / 4).append(", ").append(line).append(", ").append(100 + line);
            run.append("); settle(3);");
        }
        for (int line = 0; line < 16; line++) {
            run.append("owner(").append(line).append(") = ").append(line / 4).append(";");
            for (int cache = 0; cache < 4; cache++) {
                run.append("state(").append(cache).append(", ").append(line).append(")");
                run.append(cache == line / 4 ? " = 3;" : " = 0;");
            }
            run.append("value(").append(line / 4).append(", ").append(line).append(") = ").append(100 + line);
            run.append(";");
        }
        runs.hold(sentence, run.toString());
    }

    private static void valuesOfALine() {
        String sentence = "A line has a value, 0 to 9999.";
        runs.bound(sentence, "", "write(0, 3, ?)", 0, 9999, BAD_ARGUMENT);
        String another = "write(2, 3, 5); settle(9); evict(2, 3); settle(9); memory(3) = 5;";
        for (int value : new int[] {0, 1, 9998, 9999}) {
            runs.hold(sentence, (another + "write(0, 3, %d) = false; settle(9) = 3; value(0, 3) = %d; "
                    + "read(0, 3) = %d; read(1, 3) = -1; settle(9) = 4; latestRead(1) = %d; value(1, 3) = %d; "
                    + "evict(0, 3) = 2; victimValue(0, 3) = %d; settle(9) = 2; memory(3) = %d; "
                    + "read(2, 3) = -1; settle(9) = 3; latestRead(2) = %d").replace("%d", "" + value));
        }
    }

    private static void theMemoryAtFirst() {
        String sentence = "The memory has a value for each line, 0 at first.";
        for (int line = 0; line < 16; line++) {
            runs.hold(sentence, ("memory(%d) = 0; read(0, %d) = -1; settle(9) = 3; latestRead(0) = 0; "
                    + "read(0, %d) = 0; write(0, %d, 7) = false; settle(9) = 3; evict(0, %d) = 3; settle(9) = 2; "
                    + "memory(%d) = 7").replace("%d", "" + line));
        }
        runs.hold(sentence, "write(0, 7, 70); settle(9); evict(0, 7); settle(9); memory(6) = 0; memory(7) = 70; "
                + "memory(8) = 0");
    }

    private static void waysOfACache() {
        String sentence = "A cache has room for some lines (its ways, 1 to 4; 2 at first)";
        runs.bound(sentence, "", "setRoom(0, ?, 1)", 1, 4, BAD_ARGUMENT);
        for (int cache = 0; cache < 4; cache++) {
            runs.hold(sentence, fillWays("", cache, 2));
            for (int ways = 1; ways <= 4; ways++) {
                runs.hold(sentence, fillWays("setRoom(" + cache + ", " + ways + ", 1);", cache, ways));
            }
        }
    }

    /** As many lines as there are ways stay; for one more, the first vanishes. */
    private static String fillWays(String before, int cache, int ways) {
        StringBuilder run = new StringBuilder(before);
        StringBuilder held = new StringBuilder();
        for (int line = 0; line < ways; line++) {
            run.append("read(").append(cache).append(", ").append(line).append(") = -1; settle(9) = 3;");
            held.append(line == 0 ? "" : " ").append(line);
            run.append("lines(").append(cache).append(") = ").append(held).append(";");
        }
        String left = ways == 1 ? "none" : held.substring(2);
        run.append("read(").append(cache).append(", ").append(ways).append(") = -1;");
        run.append("lines(").append(cache).append(") = ").append(left).append("; settle(9) = 3;");
        String full = ways == 1 ? "1" : left + " " + ways;
        return run.append("lines(").append(cache).append(") = ").append(full).toString();
    }

    private static void roomOfAVictimBuffer() {
        String sentence = "and a victim buffer with room for some more (0 to 2; 1 at first)";
        runs.bound(sentence, "", "setRoom(0, 2, ?)", 0, 2, BAD_ARGUMENT);
        for (int cache = 0; cache < 4; cache++) {
            runs.hold(sentence, ("write(%d, 0, 5); settle(9); write(%d, 1, 6); settle(9); evict(%d, 0) = 3; "
                    + "evict(%d, 1) = throws IllegalStateException; victimValue(%d, 0) = 5; "
                    + "victimValue(%d, 1) = -1; state(%d, 1) = 3; settle(9) = 2; evict(%d, 1) = 3")
                    .replace("%d", "" + cache));
        }
        String four = "write(0, 0, 5); settle(9); write(0, 1, 6); settle(9); write(0, 2, 7); settle(9);";
        runs.hold(sentence,
                "setRoom(0, 4, 0);" + four + "evict(0, 0) = throws IllegalStateException; kinds() = none",
                "setRoom(0, 4, 1);" + four + "evict(0, 0) = 3; evict(0, 1) = throws IllegalStateException; kinds() = 3",
                "setRoom(0, 4, 2);" + four + "evict(0, 0) = 3; evict(0, 1) = 3; "
                        + "evict(0, 2) = throws IllegalStateException; kinds() = 3 3; victimValue(0, 0) = 5; "
                        + "victimValue(0, 1) = 6; victimValue(0, 2) = -1");
    }

    private static void statesOfALine() {
        runs.hold("A line is in a cache in one of the states 1 SHARED, 2 OWNED, 3 MODIFIED, "
                + "or it is not in it (state 0).",
                "state(0, 6) = 0; read(0, 6); state(0, 6) = 0; settle(9); state(0, 6) = 1",
                "write(0, 6, 1); state(0, 6) = 0; settle(9); state(0, 6) = 3",
                "write(0, 6, 1); settle(9); read(1, 6); settle(9); state(0, 6) = 2; state(1, 6) = 1",
                "write(0, 6, 1); settle(9); write(1, 6, 2); settle(9); state(0, 6) = 0; state(1, 6) = 3",
                "read(0, 6); settle(9); evict(0, 6) = 1; state(0, 6) = 0",
                "write(0, 6, 1); settle(9); evict(0, 6) = 3; state(0, 6) = 0");
    }

    private static void aLineInAVictimBuffer() {
        runs.hold("A line in a victim buffer has a value; it is being written back.",
                "write(0, 6, 0); settle(9); evict(0, 6); victimValue(0, 6) = 0; message(0) = 3 6 0 -1; deliver(0); "
                        + "victimValue(0, 6) = 0; deliver(0); victimValue(0, 6) = -1",
                "write(0, 6, 9999); settle(9); evict(0, 6); victimValue(0, 6) = 9999; deliver(0); memory(6) = 9999");
    }

    private static void oneOpenRequest() {
        runs.hold("A cache has at most one request that is open",
                "openLine(0) = -1; read(0, 1) = -1; openLine(0) = 1; read(0, 2) = throws IllegalStateException; "
                        + "write(0, 2, 5) = throws IllegalStateException; deliver(0) = 1; "
                        + "read(0, 2) = throws IllegalStateException; deliver(0) = 1; openLine(0) = -1; "
                        + "read(0, 2) = -1; openLine(0) = 2",
                "write(0, 1, 5) = false; read(0, 2) = throws IllegalStateException; "
                        + "write(0, 2, 5) = throws IllegalStateException; deliver(0) = 1; "
                        + "write(0, 2, 5) = throws IllegalStateException; deliver(0) = 1; write(0, 2, 5) = false",
                "read(0, 1) = -1; read(1, 1) = -1; write(2, 1, 3) = false; write(3, 2, 4) = false; "
                        + "openLine(0) = 1; openLine(1) = 1; openLine(2) = 1; openLine(3) = 2");
    }

    private static void theValueToBeWritten() {
        runs.hold("for reading or for writing a line, in the latter case with the value that is to be written",
                "write(0, 1, 0) = false; write(1, 2, 9999) = false; write(2, 3, 1) = false; settle(20) = 9; "
                        + "value(0, 1) = 0; value(1, 2) = 9999; value(2, 3) = 1",
                "write(0, 1, 8) = false; settle(9) = 3; write(0, 2, 9) = false; settle(9) = 3; value(0, 1) = 8; "
                        + "value(0, 2) = 9");
    }

    private static void anOpenRequestTakesAWay() {
        String sentence = "If the line of the open request is not in the cache, the request takes up one of the ways.";
        runs.hold(sentence,
                "setRoom(0, 1, 0); read(0, 1); lines(0) = none; settle(9); lines(0) = 1; read(0, 2); "
                        + "lines(0) = none; settle(9); lines(0) = 2",
                "read(0, 1); settle(9); read(0, 2); lines(0) = 1; settle(9); lines(0) = 1 2; read(0, 3); "
                        + "lines(0) = 2; settle(9); lines(0) = 2 3");
        // a line that an open request for writing loses leaves its way to that request
        String lost = "read(0, 6); settle(9); write(0, 6, 2) = false; write(1, 6, 3) = false; deliver(1) = 3; "
                + "message(1) = 10 6 -1 0; deliver(1) = 3; state(0, 6) = 0;";
        runs.hold(sentence,
                "setRoom(0, 1, 0);" + lost + "lines(0) = none; openLine(0) = 6; settle(50); lines(0) = 6; "
                        + "value(0, 6) = 2",
                "setRoom(0, 2, 0); read(0, 5); settle(9);" + lost + "lines(0) = 5; settle(50); lines(0) = 5 6; "
                        + "state(0, 6) = 3; state(0, 5) = 1");
    }

    private static void theDirectoryAtFirst() {
        for (int line = 0; line < 16; line++) {
            runs.hold("The directory knows for each line the owner (a cache, or none at first), the sharers (a set "
                    + "of caches, empty at first), whether it is busy (at first not), and a queue of messages that "
                    + "wait (empty at first).",
                    "owner(%d) = -1; sharers(%d) = 0; isBusy(%d) = false; queued(%d) = 0".replace("%d", "" + line));
        }
    }

    private static final String FOUR_LINES = "setRoom(0, 4, 2); read(0, 0); settle(9); read(0, 1); settle(9); "
            + "write(0, 2, 5); settle(9); write(0, 3, 6); settle(9);";

    private static void orderByLatestUse() {
        runs.hold("The lines of a cache are ordered by their latest use.",
                "lines(0) = none; read(0, 9); settle(9); lines(0) = 9; read(0, 9) = 0; lines(0) = 9",
                FOUR_LINES + "lines(0) = 0 1 2 3; read(0, 3) = 6; lines(0) = 0 1 2 3; read(0, 0) = 0; "
                        + "lines(0) = 1 2 3 0; read(0, 2) = 5; lines(0) = 1 3 0 2",
                FOUR_LINES + "evict(0, 0); lines(0) = 1 2 3; evict(0, 2); lines(0) = 1 3; evict(0, 3); lines(0) = 1");
    }

    private static void whatIsAUse() {
        String sentence = "A line is used when it is read or written in the cache without a request, "
                + "and when a request for it is completed.";
        runs.hold(sentence,
                FOUR_LINES + "read(0, 1) = 0; lines(0) = 0 2 3 1",
                FOUR_LINES + "write(0, 2, 7) = true; lines(0) = 0 1 3 2",
                FOUR_LINES + "write(0, 0, 7) = false; lines(0) = 0 1 2 3; deliver(0); lines(0) = 0 1 2 3; "
                        + "deliver(0); lines(0) = 1 2 3 0; deliver(0); lines(0) = 1 2 3 0");
        // what is none: to be asked about, to be forwarded, to be acknowledged, to be refused
        runs.hold(sentence,
                FOUR_LINES + "value(0, 0); state(0, 0); lineAt(0, 0); victimValue(0, 0); lines(0) = 0 1 2 3",
                FOUR_LINES + "read(1, 2); settle(9); latestRead(1) = 5; lines(0) = 0 1 2 3",
                FOUR_LINES + "write(1, 2, 8); settle(9); lines(0) = 0 1 3",
                FOUR_LINES + "read(1, 0); settle(9); write(0, 0, 7) = false; deliver(0); deliver(1); "
                        + "lines(0) = 0 1 2 3; deliver(0); lines(0) = 0 1 2 3; deliver(0); lines(0) = 1 2 3 0",
                FOUR_LINES + "write(0, 1, 7); read(0, 0) = throws IllegalStateException; "
                        + "write(0, 2, 7) = throws IllegalStateException; lines(0) = 0 1 2 3");
    }

    private static void whenALineIsRemoved() {
        String sentence = "If the line is not in the cache, and the lines in the cache are as many as the ways, "
                + "a line is removed first";
        String[] lines = {"", "read(0, 0); settle(9);", "read(0, 1); settle(9);", "read(0, 2); settle(9);",
            "read(0, 3); settle(9);"};
        String[] held = {"none", "0", "0 1", "0 1 2", "0 1 2 3"};
        String[] withoutFirst = {"", "none", "1", "1 2", "1 2 3"};
        String filled = "";
        for (int ways = 1; ways <= 4; ways++) {
            String room = "setRoom(0, " + ways + ", 1);";
            String oneLess = room + filled;
            filled += lines[ways];
            String full = room + filled;
            runs.hold(sentence + ": there is a way",
                    oneLess + "read(0, 9) = -1; lines(0) = " + held[ways - 1],
                    oneLess + "write(0, 9, 1) = false; lines(0) = " + held[ways - 1]);
            runs.hold(sentence + ": all ways are taken",
                    full + "read(0, 9) = -1; lines(0) = " + withoutFirst[ways],
                    full + "write(0, 9, 1) = false; lines(0) = " + withoutFirst[ways]);
            runs.hold(sentence + ": the line is in the cache",
                    full + "write(0, 0, 1) = false; lines(0) = " + held[ways],
                    full + "write(0, " + (ways - 1) + ", 1) = false; lines(0) = " + held[ways]);
            runs.hold(sentence + ": one was evicted",
                    full + "evict(0, 0); read(0, 9) = -1; lines(0) = " + withoutFirst[ways]);
        }
    }

    private static void theLineLongestUnused() {
        runs.hold("a line is removed first, the one whose latest use is the longest ago",
                "read(0, 1); settle(9); read(0, 2); settle(9); read(0, 3); lines(0) = 2",
                "read(0, 1); settle(9); read(0, 2); settle(9); read(0, 1); read(0, 3); lines(0) = 1",
                "read(0, 2); settle(9); read(0, 1); settle(9); read(0, 3); lines(0) = 1",
                FOUR_LINES + "read(0, 0); read(0, 1); read(0, 9); lines(0) = 3 0 1; victimValue(0, 2) = 5",
                FOUR_LINES + "write(0, 9, 1); lines(0) = 1 2 3; settle(9); lines(0) = 1 2 3 9");
    }

    private static void whereARemovedLineGoes() {
        runs.hold("if it is SHARED, it vanishes",
                "read(0, 1); settle(9); read(0, 2); settle(9); read(0, 3) = -1; kinds() = 1; state(0, 1) = 0; "
                        + "victimValue(0, 1) = -1",
                "setRoom(0, 1, 0); read(0, 1); settle(9); write(0, 3, 4) = false; kinds() = 2; state(0, 1) = 0");
        String goes = "read(0, 2); settle(9); read(0, 3) = -1; state(0, 1) = 0; victimValue(0, 1) = 7; "
                + "kinds() = 3 1; message(0) = 3 1 0 -1; deliver(0); memory(1) = 7";
        runs.hold("otherwise it goes with its value to the victim buffer, and the message PUT, with this value, "
                + "is sent to the directory",
                "write(0, 1, 7); settle(9);" + goes,
                "write(0, 1, 7); settle(9); read(1, 1); settle(9); state(0, 1) = 2;" + goes,
                "write(0, 1, 6); settle(9); write(0, 1, 7) = true;" + goes);
    }

    private static void theRequestComesLast() {
        runs.hold("Then the message GET_SHARED (for reading) or GET_MODIFIED (for writing) is sent to the directory.",
                "read(3, 15) = -1; kinds() = 1; message(0) = 1 15 3 -1",
                "write(3, 15, 1) = false; kinds() = 2; message(0) = 2 15 3 -1",
                "setRoom(3, 1, 1); write(3, 0, 1); settle(9); read(3, 15) = -1; kinds() = 3 1; "
                        + "message(0) = 3 0 3 -1; message(1) = 1 15 3 -1",
                "setRoom(3, 1, 1); write(3, 0, 1); settle(9); write(3, 15, 1) = false; kinds() = 3 2; "
                        + "message(0) = 3 0 3 -1; message(1) = 2 15 3 -1");
    }
}
