import java.util.List;

/** Promises 17 to 23: the messages, their order, and what each does when it is delivered. */
final class MessagesTest {
    private static final Checks checks = new Checks("MessagesTest");

    public static void main(String[] args) {
        promise17MessageCount();
        promises18To21MessageParts();
        promise22Deliver();
        promise22Reading();
        promise22ReadingFromAnOwner();
        promise22WritingAmongSharers();
        promise22AcknowledgementsFirst();
        promise22WritingOverAnOwner();
        promise22Grant();
        promise22AnUpgradeThatIsOvertaken();
        promise22ASharedUpgradeThatIsInvalidated();
        promise22VictimsServeForwards();
        promise22LatePut();
        promise22InvalidateOfAVanishedLine();
        promise22InvalidateLeavesTheBuffer();
        promise23Settle();
        promise23Refusals();
        checks.end();
    }

    private static void promise17MessageCount() {
        CacheDirectory x = new CacheDirectory();
        x.read(0, 1);
        x.read(1, 2);
        checks.same("17: two", x.messageCount(), 2);
        x.deliver(0);
        checks.same("17: one delivered, one sent", x.messageCount(), 2);
        x.settle(1000);
        checks.same("17: none", x.messageCount(), 0);
    }

    private static void promises18To21MessageParts() {
        CacheDirectory x = new CacheDirectory();
        checks.refusesNoMessage(x, "18: messageKind, of none", i -> x.messageKind(i));
        x.read(3, 15);
        x.write(2, 0, 1);
        checks.refusesNoMessage(x, "18: messageKind", i -> x.messageKind(i));
        checks.refusesNoMessage(x, "19: messageLine", i -> x.messageLine(i));
        checks.refusesNoMessage(x, "20: messageFrom", i -> x.messageFrom(i));
        checks.refusesNoMessage(x, "21: messageTo", i -> x.messageTo(i));
        checks.same("18: GET_SHARED", x.messageKind(0), 1);
        checks.same("18: GET_MODIFIED", x.messageKind(1), 2);
        checks.same("19: line 15", x.messageLine(0), 15);
        checks.same("19: line 0", x.messageLine(1), 0);
        checks.same("20: of cache 3", x.messageFrom(0), 3);
        checks.same("20: of cache 2", x.messageFrom(1), 2);
        checks.same("21: to the directory", x.messageTo(0), -1);
        x.deliver(0);
        checks.same("18: DATA", x.messageKind(1), 5);
        checks.same("20: of the directory", x.messageFrom(1), -1);
        checks.same("21: to cache 3", x.messageTo(1), 3);
    }

    private static void promise22Deliver() {
        CacheDirectory x = new CacheDirectory();
        checks.refusesNoMessage(x, "22: deliver, of none", i -> x.deliver(i));
        x.read(0, 1);
        x.read(1, 2);
        x.read(2, 3);
        checks.refusesNoMessage(x, "22: deliver", i -> x.deliver(i));
        checks.same("22: from the middle", x.deliver(1), 3);
        checks.same("22: the first stays", Checks.message(x, 0), List.of(1, 1, 0, -1));
        checks.same("22: the last moves up", Checks.message(x, 1), List.of(1, 3, 2, -1));
        checks.same("22: the new one comes last", Checks.message(x, 2), List.of(5, 2, -1, 1));
        checks.same("22: the last index", x.deliver(2), 3);
        checks.same("22: DONE answers nothing", x.deliver(2), 2);
    }

    private static void promise22Reading() {
        CacheDirectory x = new CacheDirectory();
        x.read(2, 6);
        x.deliver(0);
        checks.same("22: DATA of the memory", Checks.message(x, 0), List.of(5, 6, -1, 2));
        checks.same("22: not there before DATA", x.state(2, 6), 0);
        x.deliver(0);
        checks.same("22: SHARED", x.state(2, 6), 1);
        checks.same("22: DONE", Checks.message(x, 0), List.of(4, 6, 2, -1));
        checks.same("22: no other", x.messageCount(), 1);
    }

    private static void promise22ReadingFromAnOwner() {
        CacheDirectory x = new CacheDirectory();
        Checks.writeThrough(x, 1, 6, 44);
        Checks.readThrough(x, 1, 7);
        x.read(2, 6);
        x.deliver(0);
        checks.same("22: FORWARD_SHARED", Checks.message(x, 0), List.of(8, 6, -1, 1));
        checks.same("22: MODIFIED until then", x.state(1, 6), 3);
        x.deliver(0);
        checks.same("22: DATA of the owner", Checks.message(x, 0), List.of(5, 6, 1, 2));
        checks.same("22: then OWNED", x.state(1, 6), 2);
        checks.same("22: its value stays", x.value(1, 6), 44);
        checks.same("22: a forward is no use", Checks.lines(x, 1), List.of(6, 7));
        x.deliver(0);
        checks.same("22: the reader has it", x.value(2, 6), 44);
        x.settle(10);
        Checks.readThrough(x, 3, 6);
        checks.same("22: OWNED stays OWNED", x.state(1, 6), 2);
        checks.same("22: and serves", x.latestRead(3), 44);
    }

    private static void promise22WritingAmongSharers() {
        CacheDirectory x = new CacheDirectory();
        for (int cache = 3; cache >= 0; cache--) {
            Checks.readThrough(x, cache, 6);
        }
        x.write(1, 6, 5);
        x.deliver(0);
        checks.same("22: in ascending order, then DATA", Checks.kinds(x), List.of(10, 10, 10, 5));
        checks.same("22: INVALIDATE of 0", Checks.message(x, 0), List.of(10, 6, -1, 0));
        checks.same("22: INVALIDATE of 2", Checks.message(x, 1), List.of(10, 6, -1, 2));
        checks.same("22: INVALIDATE of 3", Checks.message(x, 2), List.of(10, 6, -1, 3));
        checks.same("22: DATA for the writer", Checks.message(x, 3), List.of(5, 6, -1, 1));
        x.deliver(1);
        checks.same("22: it is removed", x.state(2, 6), 0);
        checks.same("22: INVALIDATE_DONE", Checks.message(x, 3), List.of(7, 6, 2, 1));
        Checks.deliverKind(x, 5);
        Checks.deliverKind(x, 7);
        checks.same("22: one of three", x.openLine(1), 6);
        x.deliver(0);
        x.deliver(0);
        x.deliver(0);
        checks.same("22: two of three", x.openLine(1), 6);
        checks.same("22: the old state till then", x.state(1, 6), 1);
        x.deliver(0);
        checks.same("22: three of three", x.openLine(1), -1);
        checks.same("22: MODIFIED", x.state(1, 6), 3);
        checks.same("22: the value written", x.value(1, 6), 5);
        checks.same("22: DONE alone is left", Checks.kinds(x), List.of(4));
    }

    private static void promise22AcknowledgementsFirst() {
        CacheDirectory x = new CacheDirectory();
        Checks.readThrough(x, 2, 6);
        Checks.readThrough(x, 3, 6);
        x.write(0, 6, 5);
        x.deliver(0);
        x.deliver(0);
        x.deliver(0);
        checks.same("22: DATA has waited", Checks.kinds(x), List.of(5, 7, 7));
        x.deliver(1);
        x.deliver(1);
        checks.same("22: acknowledged, not answered", x.openLine(0), 6);
        x.deliver(0);
        checks.same("22: DATA completes it", x.state(0, 6), 3);
        x.settle(10);
        theNextRequestCountsAnew();
    }

    private static void theNextRequestCountsAnew() {
        CacheDirectory x = new CacheDirectory();
        Checks.readThrough(x, 1, 6);
        Checks.writeThrough(x, 0, 6, 5);
        Checks.readThrough(x, 2, 7);
        Checks.readThrough(x, 3, 7);
        x.write(0, 7, 6);
        x.deliver(0);
        x.deliver(0);
        x.deliver(2);
        checks.same("22: one of the next two", x.openLine(0), 7);
        Checks.deliverKind(x, 5);
        checks.same("22: one of two, answered", x.openLine(0), 7);
        x.settle(10);
        checks.same("22: the next is completed", x.value(0, 7), 6);
    }

    private static void promise22WritingOverAnOwner() {
        CacheDirectory x = new CacheDirectory();
        Checks.writeThrough(x, 1, 6, 44);
        Checks.readThrough(x, 3, 6);
        x.write(2, 6, 55);
        x.deliver(0);
        checks.same("22: the sharer, then the owner", Checks.kinds(x), List.of(10, 9));
        checks.same("22: FORWARD_MODIFIED", Checks.message(x, 1), List.of(9, 6, -1, 1));
        x.deliver(1);
        checks.same("22: the owner loses it", x.state(1, 6), 0);
        checks.same("22: to no victim buffer", x.victimValue(1, 6), -1);
        checks.same("22: DATA of the owner", Checks.message(x, 1), List.of(5, 6, 1, 2));
        x.deliver(1);
        checks.same("22: with the count 1", x.openLine(2), 6);
        x.settle(10);
        checks.same("22: the writer has it", x.value(2, 6), 55);
        checks.same("22: the sharer does not", x.state(3, 6), 0);
        checks.same("22: the memory knows nothing", x.memory(6), 0);
    }

    private static void promise22Grant() {
        CacheDirectory x = new CacheDirectory();
        Checks.writeThrough(x, 1, 6, 44);
        Checks.readThrough(x, 0, 6);
        Checks.readThrough(x, 3, 6);
        x.write(1, 6, 45);
        x.deliver(0);
        checks.same("22: the sharers, then GRANT", Checks.kinds(x), List.of(10, 10, 6));
        checks.same("22: GRANT", Checks.message(x, 2), List.of(6, 6, -1, 1));
        x.deliver(2);
        checks.same("22: GRANT with the count 2", x.state(1, 6), 2);
        x.settle(20);
        checks.same("22: granted", x.value(1, 6), 45);
        checks.same("22: MODIFIED again", x.state(1, 6), 3);
        checks.same("22: one owner", x.owner(6), 1);
    }

    private static void promise22AnUpgradeThatIsOvertaken() {
        CacheDirectory x = new CacheDirectory();
        Checks.writeThrough(x, 0, 6, 1);
        Checks.readThrough(x, 1, 6);
        x.write(0, 6, 2);
        x.write(1, 6, 3);
        x.deliver(1);
        checks.same("22: the other is served first", x.owner(6), 1);
        x.deliver(0);
        checks.same("22: the owner's request waits", x.queued(6), 1);
        Checks.deliverKind(x, 9);
        checks.same("22: it loses the line", x.state(0, 6), 0);
        checks.same("22: its request stays open", x.openLine(0), 6);
        Checks.deliverKind(x, 5);
        checks.same("22: the other has it", x.value(1, 6), 3);
        Checks.deliverKind(x, 4);
        checks.same("22: then the other is asked", Checks.message(x, 0), List.of(9, 6, -1, 1));
        x.settle(20);
        checks.same("22: written after all", x.value(0, 6), 2);
        checks.same("22: the other lost it", x.state(1, 6), 0);
    }

    private static void promise22ASharedUpgradeThatIsInvalidated() {
        CacheDirectory x = new CacheDirectory();
        Checks.readThrough(x, 0, 6);
        Checks.readThrough(x, 1, 6);
        x.write(0, 6, 2);
        x.write(1, 6, 3);
        x.deliver(1);
        Checks.deliverKind(x, 10);
        checks.same("22: the upgrade lost its line", x.state(0, 6), 0);
        checks.same("22: the upgrade is open", x.openLine(0), 6);
        x.settle(50);
        checks.same("22: the upgrade is completed", x.value(0, 6), 2);
        checks.same("22: the owner", x.owner(6), 0);
        checks.same("22: nothing is left", x.messageCount(), 0);
    }

    private static void promise22VictimsServeForwards() {
        CacheDirectory x = new CacheDirectory();
        Checks.writeThrough(x, 0, 6, 71);
        x.evict(0, 6);
        x.read(1, 6);
        x.deliver(1);
        Checks.deliverKind(x, 8);
        checks.same("22: the victim stays", x.victimValue(0, 6), 71);
        checks.same("22: it does not come back", x.state(0, 6), 0);
        Checks.deliverKind(x, 5);
        checks.same("22: it was read", x.latestRead(1), 71);
        x.settle(20);
        checks.same("22: then it is written back", x.memory(6), 71);
        checks.same("22: in time", x.writebacks(), 1);
        checks.same("22: the reader keeps it", x.state(1, 6), 1);
        checks.same("22: as a sharer", x.sharers(6), 2);

        Checks.writeThrough(x, 0, 7, 72);
        x.evict(0, 7);
        x.write(1, 7, 73);
        x.deliver(1);
        Checks.deliverKind(x, 9);
        checks.same("22: it stays for a writer too", x.victimValue(0, 7), 72);
    }

    private static void promise22LatePut() {
        CacheDirectory x = new CacheDirectory();
        Checks.writeThrough(x, 0, 6, 71);
        x.evict(0, 6);
        x.write(1, 6, 72);
        x.deliver(1);
        x.deliver(1);
        x.deliver(1);
        x.deliver(1);
        checks.same("22: PUT is the last", Checks.kinds(x), List.of(3));
        x.deliver(0);
        checks.same("22: PUT_DONE in any case", Checks.message(x, 0), List.of(11, 6, -1, 0));
        checks.same("22: the memory keeps its value", x.memory(6), 0);
        checks.same("22: the owner stays", x.owner(6), 1);
        x.deliver(0);
        checks.same("22: the victim is gone", x.victimValue(0, 6), -1);
        checks.same("22: it may be asked for again", x.read(0, 6), -1);
    }

    private static void promise22InvalidateOfAVanishedLine() {
        CacheDirectory x = new CacheDirectory();
        Checks.readThrough(x, 0, 6);
        x.evict(0, 6);
        x.read(0, 6);
        x.write(1, 6, 9);
        x.deliver(1);
        checks.same("22: the directory still counts it", Checks.kinds(x), List.of(1, 10, 5));
        x.deliver(0);
        x.deliver(0);
        checks.same("22: it acknowledges all the same", Checks.kinds(x), List.of(5, 7));
        x.settle(50);
        checks.same("22: then it reads what was written", x.latestRead(0), 9);
        checks.same("22: from the writer", x.state(1, 6), 2);
    }

    private static void promise22InvalidateLeavesTheBuffer() {
        CacheDirectory x = new CacheDirectory();
        x.setRoom(0, 4, 1);
        Checks.writeThrough(x, 0, 1, 5);
        Checks.writeThrough(x, 0, 2, 6);
        Checks.readThrough(x, 0, 6);
        Checks.writeThrough(x, 1, 6, 9);
        checks.same("22: one victim has room", x.evict(0, 1), 3);
        checks.refuses(x, "22: an INVALIDATE made no room for two", Checks.BAD_STATE, () -> x.evict(0, 2));
        x.settle(10);
        checks.same("22: PUT_DONE did", x.evict(0, 2), 3);
    }

    private static void promise23Settle() {
        CacheDirectory x = new CacheDirectory();
        checks.same("23: nothing on the way", x.settle(1000), 0);
        x.read(0, 1);
        x.read(1, 2);
        checks.same("23: none", x.settle(0), 0);
        checks.same("23: none was delivered", Checks.kinds(x), List.of(1, 1));
        checks.same("23: one", x.settle(1), 1);
        checks.same("23: the first", Checks.message(x, 0), List.of(1, 2, 1, -1));
        checks.same("23: three of five", x.settle(3), 3);
        checks.same("23: always the first", Checks.kinds(x), List.of(4, 4));
        checks.same("23: just as many as there are", x.settle(2), 2);
        x.read(2, 2);
        checks.same("23: no more than there are", x.settle(1000), 3);
    }

    private static void promise23Refusals() {
        CacheDirectory x = new CacheDirectory();
        x.read(0, 1);
        for (int most : new int[] {-1, 1001, Integer.MIN_VALUE, Integer.MAX_VALUE}) {
            checks.refuses(x, "23: settle(" + most + ")", Checks.BAD_ARGUMENT, () -> x.settle(most));
        }
    }
}
