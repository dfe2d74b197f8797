import java.util.List;

/** Promises 1 to 11: a new object, and what a cache does and tells. */
final class CachesTest {
    private static final Checks checks = new Checks("CachesTest");

    public static void main(String[] args) {
        promise1NewObject();
        promise2SetRoom();
        promise2Refusals();
        promise3Read();
        promise3Refusals();
        promise4Write();
        promise4Refusals();
        promise5Evict();
        promise5Refusals();
        promise6State();
        promise7Value();
        promise8VictimValue();
        promise9OpenLine();
        promise10LatestRead();
        promise11LineAt();
        checks.end();
    }

    private static void promise1NewObject() {
        CacheDirectory x = new CacheDirectory();
        checks.same("1: messageCount()", x.messageCount(), 0);
        for (int cache = 0; cache < 4; cache++) {
            checks.same("1: openLine", x.openLine(cache), -1);
            checks.same("1: latestRead", x.latestRead(cache), -1);
            checks.same("1: hits", x.hits(cache), 0);
            checks.same("1: misses", x.misses(cache), 0);
            checks.same("1: the first room is 2, 1", x.setRoom(cache, 2, 1), false);
            for (int line = 0; line < 16; line++) {
                checks.same("1: state", x.state(cache, line), 0);
                checks.same("1: victimValue", x.victimValue(cache, line), -1);
            }
        }
        for (int line = 0; line < 16; line++) {
            checks.same("1: memory", x.memory(line), 0);
            checks.same("1: owner", x.owner(line), -1);
            checks.same("1: sharers", x.sharers(line), 0);
            checks.same("1: isBusy", x.isBusy(line), false);
            checks.same("1: queued", x.queued(line), 0);
        }
        CacheDirectory other = new CacheDirectory();
        Checks.writeThrough(other, 0, 0, 5);
        checks.same("1: objects share nothing", x.state(0, 0), 0);
    }

    private static void promise2SetRoom() {
        CacheDirectory x = new CacheDirectory();
        checks.same("2: other ways", x.setRoom(0, 4, 1), true);
        checks.same("2: the same", x.setRoom(0, 4, 1), false);
        checks.same("2: other victims", x.setRoom(0, 4, 2), true);
        checks.same("2: the smallest", x.setRoom(0, 1, 0), true);
        checks.same("2: another cache keeps its room", x.setRoom(3, 2, 1), false);
        for (int ways = 1; ways <= 4; ways++) {
            holdsJustItsWays(ways);
        }
        for (int victims = 0; victims <= 2; victims++) {
            buffersJustItsVictims(victims);
        }
    }

    private static void holdsJustItsWays(int ways) {
        CacheDirectory x = new CacheDirectory();
        x.setRoom(1, ways, 0);
        for (int line = 0; line < ways; line++) {
            Checks.readThrough(x, 1, line);
        }
        for (int line = 0; line < ways; line++) {
            checks.same("2: line within " + ways + " ways", x.state(1, line), 1);
        }
        x.read(1, 15);
        checks.same("2: one line goes for the next", x.state(1, 0), 0);
        x.settle(10);
        checks.same("2: the next is there", x.state(1, 15), 1);
    }

    private static void buffersJustItsVictims(int victims) {
        CacheDirectory x = new CacheDirectory();
        x.setRoom(1, 4, victims);
        for (int line = 0; line < 4; line++) {
            Checks.writeThrough(x, 1, line, 9);
        }
        for (int line = 0; line < victims; line++) {
            checks.same("2: victim within " + victims, x.evict(1, line), 3);
        }
        checks.refuses(x, "2: victim beyond " + victims, Checks.BAD_STATE, () -> x.evict(1, 3));
    }

    private static void promise2Refusals() {
        CacheDirectory x = new CacheDirectory();
        checks.refusesNoCache(x, "2: setRoom", c -> x.setRoom(c, 1, 1));
        checks.refusesNoCache(x, "2: setRoom, also wrong ways", c -> x.setRoom(c, 0, 3));
        for (int ways : new int[] {0, 5, -1, Integer.MIN_VALUE, Integer.MAX_VALUE}) {
            checks.refuses(x, "2: ways " + ways, Checks.BAD_ARGUMENT, () -> x.setRoom(0, ways, 1));
        }
        for (int victims : new int[] {-1, 3, Integer.MIN_VALUE, Integer.MAX_VALUE}) {
            checks.refuses(x, "2: victims " + victims, Checks.BAD_ARGUMENT, () -> x.setRoom(0, 3, victims));
        }
        checks.same("2: a refusal sets nothing", x.setRoom(0, 2, 1), false);
        x.write(0, 3, 1);
        checks.refuses(x, "2: a request is open", Checks.BAD_STATE, () -> x.setRoom(0, 3, 2));
        checks.refuses(x, "2: open, and the room is the same", Checks.BAD_STATE, () -> x.setRoom(0, 2, 1));
        checks.refuses(x, "2: open, but ways are wrong", Checks.BAD_ARGUMENT, () -> x.setRoom(0, 5, 2));
        x.settle(10);
        checks.refuses(x, "2: a line is in the cache", Checks.BAD_STATE, () -> x.setRoom(0, 3, 2));
        x.evict(0, 3);
        checks.refuses(x, "2: a line is in the victim buffer", Checks.BAD_STATE, () -> x.setRoom(0, 3, 2));
        x.settle(10);
        checks.same("2: emptied", x.setRoom(0, 3, 2), true);
    }

    private static void promise3Read() {
        CacheDirectory x = new CacheDirectory();
        checks.same("3: a miss", x.read(2, 15), -1);
        checks.same("3: the request", Checks.message(x, 0), List.of(1, 15, 2, -1));
        checks.same("3: one message", x.messageCount(), 1);
        checks.same("3: not there yet", x.state(2, 15), 0);
        x.settle(10);
        checks.same("3: a hit on 0", x.read(2, 15), 0);
        checks.same("3: a hit sends nothing", x.messageCount(), 0);
        Checks.writeThrough(x, 0, 7, 9999);
        checks.same("3: a hit on MODIFIED", x.read(0, 7), 9999);
        Checks.readThrough(x, 1, 7);
        checks.same("3: a hit on OWNED", x.read(0, 7), 9999);
        checks.same("3: a hit on SHARED", x.read(1, 7), 9999);
        checks.same("3: a hit leaves the state", x.state(0, 7), 2);
        readUsesTheLine();
        readMakesRoom();
    }

    private static void readUsesTheLine() {
        CacheDirectory x = new CacheDirectory();
        Checks.readThrough(x, 0, 1);
        Checks.readThrough(x, 0, 2);
        x.read(0, 1);
        checks.same("3: a hit uses the line", Checks.lines(x, 0), List.of(2, 1));
        x.read(0, 3);
        checks.same("3: the longest unused goes", Checks.lines(x, 0), List.of(1));
        checks.same("3: a SHARED line vanishes", Checks.kinds(x), List.of(1));
    }

    private static void readMakesRoom() {
        CacheDirectory x = new CacheDirectory();
        Checks.writeThrough(x, 0, 1, 11);
        Checks.readThrough(x, 0, 2);
        checks.same("3: a miss for which a line goes", x.read(0, 3), -1);
        checks.same("3: PUT comes first", Checks.message(x, 0), List.of(3, 1, 0, -1));
        checks.same("3: then GET_SHARED", Checks.message(x, 1), List.of(1, 3, 0, -1));
        checks.same("3: the victim", x.victimValue(0, 1), 11);
        checks.same("3: it left the cache", x.state(0, 1), 0);
    }

    private static void promise3Refusals() {
        CacheDirectory x = new CacheDirectory();
        checks.refusesNoCache(x, "3: read", c -> x.read(c, 0));
        checks.refusesNoLine(x, "3: read", l -> x.read(0, l));
        Checks.writeThrough(x, 0, 1, 5);
        x.read(0, 2);
        checks.refuses(x, "3: a request is open", Checks.BAD_STATE, () -> x.read(0, 3));
        checks.refuses(x, "3: open for this line", Checks.BAD_STATE, () -> x.read(0, 2));
        checks.refuses(x, "3: open, the line is there", Checks.BAD_STATE, () -> x.read(0, 1));
        checks.refusesNoLine(x, "3: open, no such line", l -> x.read(0, l));
        checks.same("3: another cache may", x.read(1, 3), -1);
        x.settle(20);
        x.evict(0, 1);
        checks.refuses(x, "3: in the victim buffer", Checks.BAD_STATE, () -> x.read(0, 1));
        checks.same("3: another line, with room", x.read(0, 4), -1);
        needsRoomInTheBuffer();
    }

    private static void needsRoomInTheBuffer() {
        CacheDirectory x = new CacheDirectory();
        Checks.writeThrough(x, 0, 1, 5);
        Checks.writeThrough(x, 0, 2, 6);
        Checks.writeThrough(x, 1, 9, 6);
        x.read(0, 3);
        checks.same("3: the buffer takes one", x.victimValue(0, 1), 5);
        Checks.deliverKind(x, 1);
        Checks.deliverKind(x, 5);
        checks.same("3: read before the PUT", x.state(0, 3), 1);
        checks.refuses(x, "3: no room in the buffer", Checks.BAD_STATE, () -> x.read(0, 4));
        checks.refuses(x, "4: no room in the buffer", Checks.BAD_STATE, () -> x.write(0, 4, 1));
        checks.same("3: a hit needs no room", x.read(0, 2), 6);
        checks.same("3: nor when a SHARED line goes", x.read(0, 4), -1);
        checks.same("3: which went", Checks.lines(x, 0), List.of(2));
    }

    private static void promise4Write() {
        CacheDirectory x = new CacheDirectory();
        checks.same("4: a miss", x.write(3, 0, 0), false);
        checks.same("4: the request", Checks.message(x, 0), List.of(2, 0, 3, -1));
        x.settle(10);
        checks.same("4: written", x.value(3, 0), 0);
        checks.same("4: a hit on MODIFIED", x.write(3, 0, 9999), true);
        checks.same("4: the value of the hit", x.value(3, 0), 9999);
        checks.same("4: the state after the hit", x.state(3, 0), 3);
        checks.same("4: a hit sends nothing", x.messageCount(), 0);
        Checks.readThrough(x, 2, 0);
        checks.same("4: OWNED needs a request", x.write(3, 0, 1), false);
        checks.same("4: it stays there meanwhile", x.state(3, 0), 2);
        checks.same("4: with its value", x.value(3, 0), 9999);
        x.settle(20);
        checks.same("4: then it is MODIFIED", x.state(3, 0), 3);
        checks.same("4: and has the new value", x.value(3, 0), 1);
        checks.same("4: the reader lost it", x.state(2, 0), 0);
        writeUpgradesShared();
        writeUsesTheLine();
        writeMakesRoom();
    }

    private static void writeUpgradesShared() {
        CacheDirectory x = new CacheDirectory();
        x.setRoom(0, 1, 0);
        Checks.readThrough(x, 0, 4);
        checks.same("4: SHARED needs a request", x.write(0, 4, 8), false);
        checks.same("4: SHARED stays there meanwhile", x.state(0, 4), 1);
        checks.same("4: its value stays", x.value(0, 4), 0);
        x.settle(10);
        checks.same("4: SHARED becomes MODIFIED", x.state(0, 4), 3);
        checks.same("4: written at last", x.value(0, 4), 8);
    }

    private static void writeUsesTheLine() {
        CacheDirectory x = new CacheDirectory();
        Checks.writeThrough(x, 0, 1, 1);
        Checks.writeThrough(x, 0, 2, 2);
        x.write(0, 1, 3);
        checks.same("4: a hit uses the line", Checks.lines(x, 0), List.of(2, 1));
        Checks.readThrough(x, 1, 2);
        x.write(0, 2, 4);
        checks.same("4: a request does not, before it is completed", Checks.lines(x, 0), List.of(2, 1));
        x.settle(10);
        checks.same("4: a completed one does", Checks.lines(x, 0), List.of(1, 2));
    }

    private static void writeMakesRoom() {
        CacheDirectory x = new CacheDirectory();
        x.setRoom(0, 1, 1);
        Checks.writeThrough(x, 0, 1, 11);
        checks.same("4: a miss for which a line goes", x.write(0, 3, 12), false);
        checks.same("4: PUT comes first", Checks.message(x, 0), List.of(3, 1, 0, -1));
        checks.same("4: then GET_MODIFIED", Checks.message(x, 1), List.of(2, 3, 0, -1));
        x.settle(10);
        checks.same("4: the old value is in the memory", x.memory(1), 11);
        checks.same("4: the new one in the cache", x.value(0, 3), 12);
    }

    private static void promise4Refusals() {
        CacheDirectory x = new CacheDirectory();
        checks.refusesNoCache(x, "4: write", c -> x.write(c, 0, 0));
        checks.refusesNoLine(x, "4: write", l -> x.write(0, l, 0));
        checks.refusesNoCache(x, "4: write, also a wrong value", c -> x.write(c, 0, -1));
        checks.refusesNoLine(x, "4: write, also a wrong value", l -> x.write(0, l, 10000));
        Checks.writeThrough(x, 0, 1, 5);
        for (int value : new int[] {-1, 10000, Integer.MIN_VALUE, Integer.MAX_VALUE}) {
            checks.refuses(x, "4: value " + value, Checks.BAD_ARGUMENT, () -> x.write(0, 1, value));
        }
        x.write(0, 2, 1);
        checks.refuses(x, "4: a request is open", Checks.BAD_STATE, () -> x.write(0, 3, 1));
        checks.refuses(x, "4: open for this line", Checks.BAD_STATE, () -> x.write(0, 2, 1));
        checks.refuses(x, "4: open, the line is MODIFIED", Checks.BAD_STATE, () -> x.write(0, 1, 1));
        checks.refuses(x, "4: open, and a wrong value", Checks.BAD_ARGUMENT, () -> x.write(0, 1, 10000));
        x.settle(20);
        x.evict(0, 1);
        checks.refuses(x, "4: in the victim buffer", Checks.BAD_STATE, () -> x.write(0, 1, 1));
        x.settle(20);
        checks.same("4: written back", x.write(0, 1, 1), false);
    }

    private static void promise5Evict() {
        CacheDirectory x = new CacheDirectory();
        Checks.writeThrough(x, 0, 1, 5);
        checks.same("5: MODIFIED", x.evict(0, 1), 3);
        checks.same("5: it is gone", x.state(0, 1), 0);
        checks.same("5: it is a victim", x.victimValue(0, 1), 5);
        checks.same("5: PUT is sent", Checks.message(x, 0), List.of(3, 1, 0, -1));
        x.settle(10);
        checks.same("5: the memory has it", x.memory(1), 5);
        checks.same("5: the victim is gone", x.victimValue(0, 1), -1);

        Checks.writeThrough(x, 0, 2, 6);
        Checks.readThrough(x, 1, 2);
        checks.same("5: OWNED", x.evict(0, 2), 2);
        checks.same("5: SHARED", x.evict(1, 2), 1);
        checks.same("5: SHARED vanishes", x.victimValue(1, 2), -1);
        checks.same("5: without a message", Checks.kinds(x), List.of(3));
        checks.same("5: the directory does not hear of it", x.sharers(2), 2);

        x.settle(10);
        Checks.writeThrough(x, 0, 3, 1);
        Checks.writeThrough(x, 0, 4, 1);
        x.evict(0, 3);
        checks.same("5: the order of the others", Checks.lines(x, 0), List.of(4));
        checks.same("5: it is no use", x.hits(0), 0);
    }

    private static void promise5Refusals() {
        CacheDirectory x = new CacheDirectory();
        checks.refusesNoCache(x, "5: evict", c -> x.evict(c, 0));
        checks.refusesNoLine(x, "5: evict", l -> x.evict(0, l));
        checks.refuses(x, "5: not there", Checks.NO_ELEMENT, () -> x.evict(0, 0));
        x.read(0, 0);
        checks.refuses(x, "5: open, not there", Checks.NO_ELEMENT, () -> x.evict(0, 0));
        x.settle(10);
        x.write(0, 0, 1);
        checks.refuses(x, "5: open for this SHARED line", Checks.BAD_STATE, () -> x.evict(0, 0));
        x.settle(10);
        x.read(0, 1);
        checks.same("5: open for another line", x.evict(0, 0), 3);
        checks.refuses(x, "5: already a victim", Checks.NO_ELEMENT, () -> x.evict(0, 0));
        x.settle(20);
        x.setRoom(1, 2, 0);
        Checks.writeThrough(x, 1, 2, 1);
        checks.refuses(x, "5: no room for MODIFIED", Checks.BAD_STATE, () -> x.evict(1, 2));
        Checks.readThrough(x, 2, 2);
        checks.refuses(x, "5: no room for OWNED", Checks.BAD_STATE, () -> x.evict(1, 2));
        x.write(1, 2, 2);
        checks.refuses(x, "5: open for this OWNED line", Checks.BAD_STATE, () -> x.evict(1, 2));
        x.settle(20);
        Checks.readThrough(x, 1, 3);
        checks.same("5: SHARED needs no room", x.evict(1, 3), 1);
    }

    private static void promise6State() {
        CacheDirectory x = new CacheDirectory();
        checks.refusesNoCache(x, "6: state", c -> x.state(c, 0));
        checks.refusesNoLine(x, "6: state", l -> x.state(0, l));
        Checks.readThrough(x, 3, 15);
        checks.same("6: SHARED", x.state(3, 15), 1);
        Checks.writeThrough(x, 3, 15, 1);
        checks.same("6: MODIFIED", x.state(3, 15), 3);
        Checks.readThrough(x, 0, 15);
        checks.same("6: OWNED", x.state(3, 15), 2);
        Checks.writeThrough(x, 0, 15, 2);
        checks.same("6: not in it", x.state(3, 15), 0);
    }

    private static void promise7Value() {
        CacheDirectory x = new CacheDirectory();
        checks.refusesNoCache(x, "7: value", c -> x.value(c, 0));
        checks.refusesNoLine(x, "7: value", l -> x.value(0, l));
        checks.refuses(x, "7: not there", Checks.NO_ELEMENT, () -> x.value(0, 0));
        Checks.readThrough(x, 0, 0);
        checks.same("7: 0 of the memory", x.value(0, 0), 0);
        Checks.writeThrough(x, 1, 0, 9999);
        checks.same("7: written", x.value(1, 0), 9999);
        checks.refuses(x, "7: invalidated", Checks.NO_ELEMENT, () -> x.value(0, 0));
        Checks.readThrough(x, 0, 0);
        checks.same("7: of the owner", x.value(0, 0), 9999);
        x.evict(1, 0);
        checks.refuses(x, "7: in the victim buffer only", Checks.NO_ELEMENT, () -> x.value(1, 0));
    }

    private static void promise8VictimValue() {
        CacheDirectory x = new CacheDirectory();
        checks.refusesNoCache(x, "8: victimValue", c -> x.victimValue(c, 0));
        checks.refusesNoLine(x, "8: victimValue", l -> x.victimValue(0, l));
        x.setRoom(1, 4, 2);
        Checks.writeThrough(x, 1, 0, 0);
        Checks.writeThrough(x, 1, 15, 9999);
        checks.same("8: in the cache, not the buffer", x.victimValue(1, 15), -1);
        x.evict(1, 0);
        x.evict(1, 15);
        checks.same("8: a victim of the value 0", x.victimValue(1, 0), 0);
        checks.same("8: a victim of the value 9999", x.victimValue(1, 15), 9999);
        checks.same("8: of another cache", x.victimValue(0, 15), -1);
        x.deliver(0);
        checks.same("8: until PUT_DONE", x.victimValue(1, 0), 0);
        x.deliver(1);
        checks.same("8: after PUT_DONE", x.victimValue(1, 0), -1);
        checks.same("8: the other stays", x.victimValue(1, 15), 9999);
    }

    private static void promise9OpenLine() {
        CacheDirectory x = new CacheDirectory();
        checks.refusesNoCache(x, "9: openLine", c -> x.openLine(c));
        x.read(0, 0);
        x.write(3, 15, 1);
        checks.same("9: open for line 0", x.openLine(0), 0);
        checks.same("9: open for line 15", x.openLine(3), 15);
        checks.same("9: none", x.openLine(1), -1);
        Checks.deliverKind(x, 1);
        checks.same("9: open until DATA", x.openLine(0), 0);
        Checks.deliverKind(x, 5);
        checks.same("9: completed", x.openLine(0), -1);
    }

    private static void promise10LatestRead() {
        CacheDirectory x = new CacheDirectory();
        checks.refusesNoCache(x, "10: latestRead", c -> x.latestRead(c));
        Checks.writeThrough(x, 0, 0, 12);
        checks.same("10: a write is no read", x.latestRead(0), -1);
        x.read(1, 0);
        checks.same("10: not completed yet", x.latestRead(1), -1);
        x.settle(10);
        checks.same("10: completed", x.latestRead(1), 12);
        Checks.writeThrough(x, 1, 1, 13);
        x.read(1, 1);
        checks.same("10: a hit is no request", x.latestRead(1), 12);
        Checks.readThrough(x, 1, 2);
        checks.same("10: the next one", x.latestRead(1), 0);
    }

    private static void promise11LineAt() {
        CacheDirectory x = new CacheDirectory();
        checks.refusesNoCache(x, "11: lineAt", c -> x.lineAt(c, 0));
        checks.refusesNoCache(x, "11: lineAt, also no index", c -> x.lineAt(c, -1));
        x.setRoom(0, 4, 0);
        for (int line = 3; line >= 0; line--) {
            Checks.readThrough(x, 0, line);
        }
        checks.same("11: by their latest use", Checks.lines(x, 0), List.of(3, 2, 1, 0));
        x.read(0, 2);
        checks.same("11: used from the middle", Checks.lines(x, 0), List.of(3, 1, 0, 2));
        x.read(0, 2);
        checks.same("11: used once more", Checks.lines(x, 0), List.of(3, 1, 0, 2));
        x.evict(0, 1);
        checks.same("11: removed from the middle", Checks.lines(x, 0), List.of(3, 0, 2));
        for (int index : new int[] {-1, 3, 4, Integer.MIN_VALUE, Integer.MAX_VALUE}) {
            checks.refuses(x, "11: index " + index, Checks.NO_ELEMENT, () -> x.lineAt(0, index));
        }
        checks.refuses(x, "11: an empty cache", Checks.NO_ELEMENT, () -> x.lineAt(1, 0));
        x.read(1, 9);
        checks.refuses(x, "11: the line of an open request", Checks.NO_ELEMENT, () -> x.lineAt(1, 0));
        Checks.writeThrough(x, 2, 0, 1);
        checks.same("11: an invalidated line", Checks.lines(x, 0), List.of(3, 2));
    }
}
