/** The boundary cases of "Messages" in the document's Description, a test for each sentence. */
final class MessageBoundsTest {
    private static final Runs runs = new Runs("MessageBoundsTest");

    public static void main(String[] args) {
        theOrderOfMessages();
        aDeliveredMessageIsRemoved();
        aBusyDirectoryQueuesGetShared();
        aBusyDirectoryQueuesGetModified();
        aBusyDirectoryQueuesPut();
        theQueueIsAppendedTo();
        getSharedMakesASharer();
        getSharedWithAndWithoutAnOwner();
        getModifiedForAllOwnersWritersAndSharers();
        getModifiedCountsWhoHasVanished();
        putOfTheOwner();
        putOfAnotherThanTheOwner();
        putDoneInAnyCase();
        doneFreesTheLine();
        doneServesTheQueueUntilBusy();
        dataAndAcknowledgementsInAllOrders();
        grantAndAcknowledgementsInAllOrders();
        forwardedDataAndAcknowledgementsInAllOrders();
        eachRequestCountsForItself();
        aCompletedRequestForReading();
        aCompletedRequestForWriting();
        forwardShared();
        forwardSharedAndTheState();
        forwardModified();
        forwardsToAVictim();
        invalidate();
        invalidateLeavesTheVictimBuffer();
        putDone();
        runs.end();
    }

    private static String times(int count, String call) {
        return call.repeat(count);
    }

    private static String readers(int set, int line) {
        StringBuilder all = new StringBuilder();
        for (int cache = 0; cache < 4; cache++) {
            all.append(has(set, cache) ? "read(" + cache + ", " + line + "); settle(9);" : "");
        }
        return all.toString();
    }

    private static boolean has(int set, int cache) {
        return (set >> cache & 1) == 1;
    }

    private static void theOrderOfMessages() {
        runs.hold("Messages that have been sent and not delivered are on the way; they are kept in the order in "
                + "which they were sent, with indices from 0.",
                "kinds() = none; read(2, 1); write(1, 2, 4); read(0, 3); kinds() = 1 2 1; message(0) = 1 1 2 -1; "
                        + "message(1) = 2 2 1 -1; message(2) = 1 3 0 -1",
                "write(0, 1, 5); settle(9); write(0, 2, 6); settle(9); read(1, 9); read(0, 3); kinds() = 1 3 1; "
                        + "message(0) = 1 9 1 -1; message(1) = 3 1 0 -1; message(2) = 1 3 0 -1");
    }

    private static void aDeliveredMessageIsRemoved() {
        String three = "read(0, 1); read(1, 2); read(2, 3);";
        runs.hold("Delivering a message removes it, and then what follows happens.",
                "read(0, 1); deliver(0) = 1; kinds() = 5; deliver(0) = 1; kinds() = 4; deliver(0) = 0; kinds() = none",
                three + "deliver(0) = 3; message(0) = 1 2 1 -1; message(1) = 1 3 2 -1; message(2) = 5 1 -1 0",
                three + "deliver(1) = 3; message(0) = 1 1 0 -1; message(1) = 1 3 2 -1; message(2) = 5 2 -1 1",
                three + "deliver(2) = 3; message(0) = 1 1 0 -1; message(1) = 1 2 1 -1; message(2) = 5 3 -1 2");
    }

    private static final String BUSY = "If the directory is busy with the line, the message is appended to the queue "
            + "of the line. Otherwise it is processed";

    private static void aBusyDirectoryQueuesGetShared() {
        runs.hold(BUSY,
                "read(1, 4); deliver(0) = 1; queued(4) = 0; sharers(4) = 2",
                "read(0, 4); deliver(0); read(1, 4); deliver(1) = 1; queued(4) = 1; sharers(4) = 1; kinds() = 5",
                "read(0, 4); deliver(0); deliver(0); read(1, 4); deliver(1) = 1; queued(4) = 1; kinds() = 4",
                "read(0, 4); deliver(0); deliver(0); read(1, 4); deliver(0) = 1; deliver(0) = 1; queued(4) = 0; "
                        + "sharers(4) = 3; kinds() = 5",
                "read(0, 5); deliver(0); read(1, 4); deliver(1) = 2; queued(4) = 0; queued(5) = 0; sharers(4) = 2");
    }

    private static void aBusyDirectoryQueuesGetModified() {
        runs.hold(BUSY,
                "write(1, 4, 7); deliver(0) = 1; queued(4) = 0; owner(4) = 1",
                "read(0, 4); deliver(0); write(1, 4, 7); deliver(1) = 1; queued(4) = 1; owner(4) = -1; sharers(4) = 1",
                "read(0, 4); deliver(0); deliver(0); write(1, 4, 7); deliver(1) = 1; queued(4) = 1; kinds() = 4",
                "read(0, 4); deliver(0); deliver(0); write(1, 4, 7); deliver(0) = 1; deliver(0) = 2; queued(4) = 0; "
                        + "owner(4) = 1; kinds() = 10 5",
                "write(0, 5, 1); deliver(0); write(1, 4, 7); deliver(1) = 2; queued(4) = 0; queued(5) = 0; "
                        + "owner(4) = 1");
    }

    private static void aBusyDirectoryQueuesPut() {
        String owned = "write(0, 4, 7); settle(9);";
        runs.hold(BUSY,
                owned + "evict(0, 4); deliver(0) = 1; queued(4) = 0; memory(4) = 7; isBusy(4) = false; kinds() = 11",
                owned + "read(1, 4); deliver(0); evict(0, 4); deliver(1) = 1; queued(4) = 1; memory(4) = 0; "
                        + "owner(4) = 0; kinds() = 8",
                "write(0, 4, 7); deliver(0); deliver(0); evict(0, 4); deliver(1) = 1; queued(4) = 1; memory(4) = 0",
                "write(0, 4, 7); deliver(0); deliver(0); evict(0, 4); deliver(0) = 1; deliver(0) = 1; queued(4) = 0; "
                        + "memory(4) = 7",
                owned + "evict(0, 4); read(1, 5); deliver(1); deliver(0); queued(4) = 0; queued(5) = 0; memory(4) = 7");
    }

    /** The longest queue: a message of each cache waits behind a DONE. */
    private static final String FOUR_WAIT = "write(0, 5, 1); settle(9); evict(0, 5); write(1, 5, 2); deliver(1); "
            + "deliver(1); deliver(1); kinds() = 3 4; queued(5) = 0; deliver(0) = 1; queued(5) = 1; evict(1, 5) = 3; "
            + "deliver(1) = 1; queued(5) = 2; read(2, 5); deliver(1) = 1; queued(5) = 3; write(3, 5, 9); "
            + "deliver(1) = 1; queued(5) = 4; kinds() = 4;";

    private static void theQueueIsAppendedTo() {
        runs.hold("the message is appended to the queue of the line",
                FOUR_WAIT,
                "read(0, 5); deliver(0); read(1, 5); write(2, 5, 8); deliver(1); deliver(1); deliver(0); "
                        + "deliver(0); sharers(5) = 3; owner(5) = -1; queued(5) = 1",
                "read(0, 5); deliver(0); read(1, 5); write(2, 5, 8); deliver(2); deliver(1); deliver(0); "
                        + "deliver(0); sharers(5) = 0; owner(5) = 2; queued(5) = 1");
    }

    private static void getSharedMakesASharer() {
        runs.hold("GET_SHARED from c: c becomes a sharer, and the directory becomes busy with the line.",
                "read(0, 4); sharers(4) = 0; isBusy(4) = false; deliver(0); sharers(4) = 1; isBusy(4) = true",
                "read(3, 4); deliver(0); sharers(4) = 8; isBusy(4) = true; isBusy(3) = false; sharers(3) = 0",
                readers(15, 4) + "sharers(4) = 15; isBusy(4) = false",
                readers(7, 4) + "evict(1, 4); sharers(4) = 7; read(1, 4) = -1; deliver(0); sharers(4) = 7; "
                        + "isBusy(4) = true");
    }

    private static void getSharedWithAndWithoutAnOwner() {
        String sentence = "If there is an owner, FORWARD_SHARED with the requester c is sent to it. Otherwise DATA "
                + "with the value of the memory and the count 0 is sent to c.";
        runs.hold(sentence,
                "read(2, 4); deliver(0) = 1; message(0) = 5 4 -1 2; deliver(0) = 1; kinds() = 4; latestRead(2) = 0",
                "write(0, 4, 8); settle(9); evict(0, 4); settle(9); read(2, 4); deliver(0) = 1; "
                        + "message(0) = 5 4 -1 2; deliver(0) = 1; kinds() = 4; latestRead(2) = 8");
        for (int owner = 0; owner < 4; owner++) {
            for (int reader = 0; reader < 4; reader++) {
                if (owner != reader) {
                    runs.hold(sentence, ("write(OWNER, 4, 8); settle(9); read(READER, 4); deliver(0) = 1; "
                            + "message(0) = 8 4 -1 OWNER; deliver(0) = 1; message(0) = 5 4 OWNER READER; "
                            + "deliver(0) = 1; latestRead(READER) = 8")
                            .replace("OWNER", "" + owner).replace("READER", "" + reader));
                }
            }
        }
    }

    private static void getModifiedForAllOwnersWritersAndSharers() {
        for (int owner = -1; owner < 4; owner++) {
            for (int writer = 0; writer < 4; writer++) {
                for (int sharers = 0; sharers < 16; sharers++) {
                    boolean isPossible = owner == -1 || !has(sharers, owner);
                    boolean isHit = owner == writer && sharers == 0;
                    if (isPossible && !isHit) {
                        getModified(owner, writer, sharers);
                    }
                }
            }
        }
    }

    private static void getModified(int owner, int writer, int sharers) {
        StringBuilder run = new StringBuilder(owner == -1 ? "" : "write(" + owner + ", 6, 1); settle(9);");
        run.append(readers(sharers, 6)).append("sharers(6) = ").append(sharers).append(";");
        run.append("write(").append(writer).append(", 6, 5) = false; deliver(0);");
        int count = 0;
        for (int cache = 0; cache < 4; cache++) {
            if (has(sharers, cache) && cache != writer) {
                run.append("message(").append(count).append(") = 10 6 -1 ").append(cache).append(";");
                count++;
            }
        }
        String told = run.toString();
        runs.hold("let the count be the number of sharers other than c and other than the owner. INVALIDATE with the "
                + "requester c is sent to each of these sharers, in ascending order.", told);
        getModifiedIsAnswered(told, count, owner, writer);
        runs.hold("Then c is the owner, there are no sharers, and the directory is busy with the line.",
                told + "owner(6) = " + writer + "; sharers(6) = 0; isBusy(6) = true");
    }

    private static void getModifiedIsAnswered(String told, int count, int owner, int writer) {
        String answered = told + "messageCount() = " + (count + 1) + "; message(" + count + ") = ";
        int messages = 2 * count + 2;
        if (owner == -1) {
            runs.hold("if there is none, DATA with the value of the memory and the count is sent to c.",
                    answered + "5 6 -1 " + writer + writtenAfter(messages, writer));
        } else if (owner == writer) {
            runs.hold("if c is the owner, GRANT with the count is sent to c;",
                    answered + "6 6 -1 " + writer + writtenAfter(messages, writer));
        } else {
            runs.hold("Then, if there is an owner other than c, FORWARD_MODIFIED with the requester c and the count is "
                    + "sent to it;", answered + "9 6 -1 " + owner + writtenAfter(messages + 1, writer));
        }
    }

    /** That all ends well tells that the requesters and the counts were right. */
    private static String writtenAfter(int messages, int writer) {
        StringBuilder run = new StringBuilder("; settle(50) = ").append(messages).append("; isBusy(6) = false");
        run.append("; openLine(").append(writer).append(") = -1; value(").append(writer).append(", 6) = 5");
        for (int cache = 0; cache < 4; cache++) {
            run.append("; state(").append(cache).append(", 6) = ").append(cache == writer ? 3 : 0);
        }
        return run.toString();
    }

    private static void getModifiedCountsWhoHasVanished() {
        runs.hold("let the count be the number of sharers other than c and other than the owner",
                readers(3, 6) + "evict(1, 6) = 1; write(0, 6, 5); deliver(0) = 2; kinds() = 10 5; deliver(1); "
                        + "openLine(0) = 6; settle(9) = 3; openLine(0) = -1",
                readers(1, 6) + "evict(0, 6) = 1; write(0, 6, 5); deliver(0) = 1; kinds() = 5");
    }

    private static void putOfTheOwner() {
        runs.hold("PUT from c: if c is the owner, the value of the message becomes the value of the memory, there is "
                + "no owner, and c is not a sharer any more.",
                "write(0, 5, 7); settle(9); evict(0, 5); memory(5) = 0; owner(5) = 0; deliver(0) = 1; memory(5) = 7; "
                        + "owner(5) = -1; sharers(5) = 0; isBusy(5) = false",
                "write(3, 5, 9999); settle(9);" + readers(7, 5) + "evict(3, 5) = 2; deliver(0) = 1; "
                        + "memory(5) = 9999; owner(5) = -1; sharers(5) = 7; isBusy(5) = false",
                "write(0, 5, 7); settle(9); evict(0, 5); settle(9); write(1, 5, 0); settle(9); evict(1, 5); "
                        + "memory(5) = 7; deliver(0); memory(5) = 0; owner(5) = -1",
                readers(1, 5) + "write(0, 5, 7); settle(9);" + readers(2, 5) + "evict(0, 5) = 2; deliver(0); "
                        + "sharers(5) = 2; memory(5) = 7");
    }

    private static final String OVERTAKEN = "write(0, 5, 1); settle(9); evict(0, 5); write(1, 5, 2); deliver(1); "
            + "deliver(1); deliver(1); deliver(1); kinds() = 3;";

    private static void putOfAnotherThanTheOwner() {
        runs.hold("PUT from c: if c is the owner",
                OVERTAKEN + "deliver(0) = 1; memory(5) = 0; owner(5) = 1; sharers(5) = 0; isBusy(5) = false; "
                        + "state(1, 5) = 3; value(1, 5) = 2",
                OVERTAKEN + "read(2, 5); settle(0); deliver(1); deliver(1); deliver(1); deliver(1); sharers(5) = 4; "
                        + "kinds() = 3; deliver(0); memory(5) = 0; owner(5) = 1; sharers(5) = 4",
                OVERTAKEN + "evict(1, 5); deliver(1); memory(5) = 2; owner(5) = -1; deliver(0); memory(5) = 2; "
                        + "owner(5) = -1");
    }

    private static void putDoneInAnyCase() {
        runs.hold("In any case, PUT_DONE is sent to c.",
                "write(3, 5, 7); settle(9); evict(3, 5); deliver(0) = 1; message(0) = 11 5 -1 3",
                OVERTAKEN + "deliver(0) = 1; message(0) = 11 5 -1 0",
                OVERTAKEN + "evict(1, 5); deliver(1) = 2; deliver(0) = 2; message(0) = 11 5 -1 1; "
                        + "message(1) = 11 5 -1 0");
    }

    private static void doneFreesTheLine() {
        runs.hold("DONE. The directory is not busy with the line any more.",
                "read(0, 1); deliver(0); deliver(0); kinds() = 4; isBusy(1) = true; deliver(0) = 0; isBusy(1) = false; "
                        + "queued(1) = 0",
                "write(0, 1, 5); deliver(0); deliver(0); kinds() = 4; isBusy(1) = true; deliver(0) = 0; "
                        + "isBusy(1) = false",
                "read(0, 1); read(1, 2); settle(4) = 4; kinds() = 4 4; deliver(0) = 1; isBusy(1) = false; "
                        + "isBusy(2) = true; deliver(0) = 0; isBusy(2) = false");
    }

    private static void doneServesTheQueueUntilBusy() {
        String sentence = "Then, as long as it is not busy with the line and the queue of the line is not empty, the "
                + "first message of the queue is removed from it and processed.";
        String readAndOneWaits = "read(0, 1); read(1, 1); deliver(0); deliver(0) = 1; queued(1) = 1; deliver(0) = 1;";
        String putWaits = "write(0, 1, 5); settle(9); read(1, 1); deliver(0); evict(0, 1) = 3; deliver(1) = 1; "
                + "queued(1) = 1; deliver(0); deliver(0); kinds() = 4;";
        runs.hold(sentence + ": one GET waits",
                readAndOneWaits + "deliver(0) = 1; queued(1) = 0; message(0) = 5 1 -1 1; sharers(1) = 3; "
                        + "isBusy(1) = true");
        runs.hold(sentence + ": two GETs wait",
                "read(2, 1); deliver(0); read(0, 1); read(1, 1); deliver(1); deliver(1); queued(1) = 2; deliver(0); "
                        + "deliver(0) = 1; queued(1) = 1; message(0) = 5 1 -1 0; sharers(1) = 5; isBusy(1) = true; "
                        + "deliver(0); deliver(0) = 1; queued(1) = 0; message(0) = 5 1 -1 1; sharers(1) = 7");
        runs.hold(sentence + ": one PUT waits",
                putWaits + "deliver(0) = 1; queued(1) = 0; isBusy(1) = false; message(0) = 11 1 -1 0; memory(1) = 5; "
                        + "owner(1) = -1");
        runs.hold(sentence + ": a GET waits before a PUT",
                "write(0, 1, 5); settle(9); read(1, 1); deliver(0); read(2, 1); deliver(1); evict(0, 1); deliver(1); "
                        + "queued(1) = 2; deliver(0); deliver(0); deliver(0) = 1; queued(1) = 1; "
                        + "message(0) = 8 1 -1 0; memory(1) = 0; deliver(0); deliver(0); latestRead(2) = 5; "
                        + "deliver(0) = 1; queued(1) = 0; message(0) = 11 1 -1 0; memory(1) = 5; isBusy(1) = false");
        runs.hold(sentence + ": two PUTs and two GETs wait",
                FOUR_WAIT + "deliver(0) = 3; queued(5) = 1; message(0) = 11 5 -1 0; message(1) = 11 5 -1 1; "
                        + "message(2) = 5 5 -1 2; memory(5) = 2; sharers(5) = 4; owner(5) = -1; isBusy(5) = true; "
                        + "deliver(2) = 3; latestRead(2) = 2; deliver(2) = 4; queued(5) = 0; kinds() = 11 11 10 5; "
                        + "owner(5) = 3; sharers(5) = 0; isBusy(5) = true");
        runs.hold(sentence + ": only messages for another line wait",
                "read(0, 1); deliver(0); read(1, 2); deliver(1); read(2, 2); deliver(2); queued(2) = 1; deliver(0); "
                        + "deliver(1) = 1; queued(2) = 1; isBusy(1) = false; isBusy(2) = true");
    }

    private static final String ALL_ORDERS = "When DATA or GRANT has been delivered, and as many INVALIDATE_DONE as "
            + "its count says (they can come before it), the request is completed";

    private static void dataAndAcknowledgementsInAllOrders() {
        for (int count = 0; count <= 3; count++) {
            String asked = readers((1 << count) - 1 << 1, 6) + "write(0, 6, 5); deliver(0);"
                    + times(count, "deliver(0);");
            completeInAllOrders(asked, count, 0);
        }
    }

    private static void grantAndAcknowledgementsInAllOrders() {
        for (int count = 1; count <= 3; count++) {
            String asked = "write(0, 6, 4); settle(9);" + readers((1 << count) - 1 << 1, 6) + "write(0, 6, 5); "
                    + "deliver(0);" + times(count, "deliver(0);");
            completeInAllOrders(asked, count, 0);
        }
    }

    private static void forwardedDataAndAcknowledgementsInAllOrders() {
        for (int count = 0; count <= 2; count++) {
            String asked = "write(3, 6, 4); settle(9);" + readers((1 << count) - 1 << 1, 6) + "write(0, 6, 5); "
                    + "deliver(0);" + times(count, "deliver(0);") + "deliver(0);";
            completeInAllOrders(asked, count, count);
        }
    }

    /** On the way are the answer, at an index, and the acknowledgements; the request is that of cache 0. */
    private static void completeInAllOrders(String asked, int count, int answerAt) {
        for (int before = 0; before <= count; before++) {
            StringBuilder run = new StringBuilder(asked);
            int ackAt = answerAt == 0 ? 1 : 0;
            run.append(times(before, "deliver(" + ackAt + "); openLine(0) = 6;"));
            run.append("deliver(").append(answerAt == 0 ? 0 : answerAt - before).append(");");
            run.append(times(count - before, "openLine(0) = 6; deliver(0);"));
            run.append("openLine(0) = -1; kinds() = 4; message(0) = 4 6 0 -1; state(0, 6) = 3; value(0, 6) = 5; ");
            run.append("isBusy(6) = true; deliver(0) = 0; isBusy(6) = false");
            runs.hold(ALL_ORDERS + ": " + before + " of " + count + " come before", run.toString());
        }
    }

    private static void eachRequestCountsForItself() {
        String sentence = "They belong to the open request of c.";
        String counted = readers(14, 6) + "write(0, 6, 5); settle(50);";
        runs.hold(sentence,
                counted + "read(0, 7); settle(2) = 2; openLine(0) = -1",
                counted + "write(0, 7, 8); settle(2) = 2; openLine(0) = -1",
                "write(0, 6, 5); settle(9);" + readers(2, 7) + "write(0, 7, 8); deliver(0); deliver(0); deliver(1); "
                        + "kinds() = 5; openLine(0) = 7; state(0, 7) = 0; deliver(0); openLine(0) = -1",
                readers(2, 6) + "write(0, 6, 5); settle(9);" + readers(6, 7) + "write(0, 7, 8); deliver(0); "
                        + "deliver(0); deliver(2); openLine(0) = 7; deliver(1); openLine(0) = 7; settle(2); "
                        + "openLine(0) = -1");
        runs.hold(sentence, readers(12, 6) + readers(12, 7) + "write(0, 6, 5); write(1, 7, 8); settle(2); "
                + "kinds() = 10 10 5 10 10 5; settle(6); kinds() = 7 7 7 7; openLine(0) = 6; openLine(1) = 7; "
                + "deliver(0); deliver(1); openLine(0) = 6; openLine(1) = 7; deliver(0); openLine(0) = -1; "
                + "openLine(1) = 7; deliver(0); openLine(1) = -1");
    }

    private static void aCompletedRequestForReading() {
        runs.hold("for reading, the line is in the cache, SHARED, with the value of DATA, which is also the result of "
                + "the request; the request is not open any more, and DONE is sent to the directory.",
                "read(3, 15); deliver(0); state(3, 15) = 0; openLine(3) = 15; latestRead(3) = -1; deliver(0) = 1; "
                        + "state(3, 15) = 1; value(3, 15) = 0; latestRead(3) = 0; openLine(3) = -1; "
                        + "message(0) = 4 15 3 -1",
                "write(0, 15, 9999); settle(9); read(3, 15); settle(3) = 3; state(3, 15) = 1; value(3, 15) = 9999; "
                        + "latestRead(3) = 9999; openLine(3) = -1; message(0) = 4 15 3 -1");
    }

    private static void aCompletedRequestForWriting() {
        String completed = "state(3, 15) = 3; value(3, 15) = 6; openLine(3) = -1; latestRead(3) = -1; "
                + "message(0) = 4 15 3 -1";
        runs.hold("for writing, the line is in the cache, MODIFIED, with the value that was to be written; the "
                + "request is not open any more, and DONE is sent to the directory.",
                "write(3, 15, 6); deliver(0); state(3, 15) = 0; openLine(3) = 15; deliver(0) = 1;" + completed,
                "write(0, 15, 9); settle(9); write(3, 15, 6); settle(3) = 3;" + completed,
                "write(3, 15, 9); settle(9); read(0, 15); settle(9); write(3, 15, 6); settle(3) = 3; "
                        + "value(3, 15) = 9; state(3, 15) = 2; settle(1) = 1;" + completed);
    }

    private static void forwardShared() {
        String sentence = "FORWARD_SHARED with the requester d: DATA with the value of the line and the count 0 is "
                + "sent to d.";
        runs.hold(sentence,
                "write(0, 6, 0); settle(9); read(3, 6); deliver(0); message(0) = 8 6 -1 0; deliver(0) = 1; "
                        + "message(0) = 5 6 0 3; value(0, 6) = 0; deliver(0); latestRead(3) = 0; openLine(3) = -1",
                "write(3, 6, 9999); settle(9); read(0, 6); deliver(0); deliver(0) = 1; message(0) = 5 6 3 0; "
                        + "deliver(0); latestRead(0) = 9999; openLine(0) = -1",
                "write(0, 6, 1); settle(9); read(1, 6); deliver(0); write(0, 6, 2) = true; deliver(0); deliver(0); "
                        + "latestRead(1) = 2; value(0, 6) = 2");
    }

    private static void forwardSharedAndTheState() {
        runs.hold("If the line is in the cache MODIFIED, it becomes OWNED.",
                "write(0, 6, 7); settle(9); read(1, 6); deliver(0); state(0, 6) = 3; deliver(0); state(0, 6) = 2; "
                        + "value(0, 6) = 7",
                "write(0, 6, 7); settle(9); read(1, 6); settle(9); read(2, 6); deliver(0); state(0, 6) = 2; "
                        + "deliver(0); "
                        + "state(0, 6) = 2; value(0, 6) = 7",
                "write(0, 6, 7); settle(9); evict(0, 6); read(1, 6); deliver(1); deliver(1); state(0, 6) = 0",
                "write(0, 6, 7); settle(9); write(0, 7, 8); settle(9); read(1, 6); settle(9); state(0, 7) = 3");
    }

    private static void forwardModified() {
        String modified = "write(0, 7, 8); settle(9); write(0, 6, 4); settle(9);";
        String lost = "deliver(0); state(0, 6) = 0; victimValue(0, 6) = -1; lines(0) = 7; state(0, 7) = 3; ";
        runs.hold("FORWARD_MODIFIED with the requester d and a count: DATA with the value of the line and this count "
                + "is sent to d; if the line is in the cache, it is removed from it.",
                modified + "write(3, 6, 5); deliver(0); message(0) = 9 6 -1 0; state(0, 6) = 3;" + lost
                        + "message(0) = 5 6 0 3; deliver(0); openLine(3) = -1",
                modified + readers(2, 6) + "write(3, 6, 5); deliver(0); deliver(0); message(0) = 9 6 -1 0; "
                        + "state(0, 6) = 2;" + lost + "message(1) = 5 6 0 3; deliver(1); openLine(3) = 6; deliver(0); "
                        + "openLine(3) = -1",
                modified + "evict(0, 6); write(3, 6, 5); deliver(1); message(1) = 9 6 -1 0; deliver(1); "
                        + "message(1) = 5 6 0 3; lines(0) = 7; deliver(1); openLine(3) = -1",
                modified + readers(6, 6) + "evict(0, 6); write(3, 6, 5); deliver(1); kinds() = 3 10 10 9; deliver(3); "
                        + "deliver(3); kinds() = 3 10 10; openLine(3) = 6; deliver(1); deliver(1); deliver(1); "
                        + "openLine(3) = 6; deliver(1); openLine(3) = -1");
    }

    private static void forwardsToAVictim() {
        String sentence = "In both cases, if the line is in the victim buffer of c and not in its cache, the value is "
                + "that in the victim buffer, and the line stays there.";
        for (int value : new int[] {0, 1, 9999}) {
            String evicted = "write(0, 6, %d); settle(9); evict(0, 6) = 3;".replace("%d", "" + value);
            String ownedEvicted = "write(0, 6, %d); settle(9); read(2, 6); settle(9); evict(0, 6) = 2;"
                    .replace("%d", "" + value);
            String stays = "victimValue(0, 6) = %d; state(0, 6) = 0;".replace("%d", "" + value);
            String read = "read(1, 6); deliver(1); message(1) = 8 6 -1 0; deliver(1); message(1) = 5 6 0 1;" + stays
                    + "deliver(1); latestRead(1) = %d; value(1, 6) = %d; settle(9) = 3; memory(6) = %d; "
                    .replace("%d", "" + value) + "victimValue(0, 6) = -1; writebacks() = 1";
            runs.hold(sentence + " FORWARD_SHARED", evicted + read, ownedEvicted + read);
            runs.hold(sentence + " FORWARD_MODIFIED",
                    evicted + "write(1, 6, 5); deliver(1); message(1) = 9 6 -1 0; deliver(1); message(1) = 5 6 0 1;"
                            + stays + "deliver(1); value(1, 6) = 5;" + stays + "settle(9) = 3; victimValue(0, 6) = -1; "
                            + "lateWritebacks() = 1",
                    ownedEvicted + "write(1, 6, 5); deliver(1); kinds() = 3 10 9; deliver(2);" + stays
                            + "settle(9); value(1, 6) = 5; lateWritebacks() = 1");
        }
    }

    private static void invalidate() {
        String acknowledged = "message(1) = 7 6 1 0; state(1, 6) = 0;";
        runs.hold("INVALIDATE with the requester d: if the line is in the cache SHARED, it is removed from it; "
                + "INVALIDATE_DONE is sent to d.",
                readers(2, 6) + "write(0, 6, 5); deliver(0); state(1, 6) = 1; deliver(0) = 2;" + acknowledged
                        + "victimValue(1, 6) = -1",
                readers(2, 6) + readers(2, 7) + "write(0, 6, 5); deliver(0); deliver(0) = 2;" + acknowledged
                        + "lines(1) = 7; state(1, 7) = 1",
                readers(2, 6) + "evict(1, 6); write(0, 6, 5); deliver(0); deliver(0) = 2;" + acknowledged,
                readers(2, 6) + readers(2, 7) + "evict(1, 6); write(0, 6, 5); deliver(0); deliver(0) = 2;"
                        + acknowledged + "lines(1) = 7",
                readers(2, 6) + "evict(1, 6); write(0, 6, 5); deliver(0); read(1, 6) = -1; deliver(0) = 3;"
                        + "kinds() = 5 1 7; openLine(1) = 6; settle(50); latestRead(1) = 5; state(0, 6) = 2",
                readers(2, 6) + "write(1, 6, 3); write(0, 6, 5); deliver(1); deliver(1); state(1, 6) = 0; "
                        + "openLine(1) = 6; kinds() = 2 5 7; settle(50); value(1, 6) = 3; owner(6) = 1");
    }

    private static void invalidateLeavesTheVictimBuffer() {
        String hold = "write(1, 7, 5); settle(9); write(1, 8, 5); settle(9);" + readers(2, 6);
        String invalidated = "write(0, 6, 5); settle(9); state(1, 6) = 0;";
        runs.hold("INVALIDATE: if the line is in the cache SHARED, it is removed from it",
                "setRoom(1, 3, 0);" + hold + invalidated + "evict(1, 7) = throws IllegalStateException",
                "setRoom(1, 3, 1);" + hold + invalidated + "evict(1, 7) = 3; "
                        + "evict(1, 8) = throws IllegalStateException");
    }

    private static void putDone() {
        String two = "setRoom(0, 4, 2); write(0, 1, 11); settle(9); write(0, 2, 12); settle(9); write(0, 3, 13); "
                + "settle(9); evict(0, 1); evict(0, 2); settle(2); kinds() = 11 11;";
        runs.hold("PUT_DONE: the line is removed from the victim buffer.",
                two + "victimValue(0, 1) = 11; victimValue(0, 2) = 12; deliver(0) = 1; victimValue(0, 1) = -1; "
                        + "victimValue(0, 2) = 12; deliver(0) = 0; victimValue(0, 2) = -1",
                two + "deliver(1) = 1; victimValue(0, 1) = 11; victimValue(0, 2) = -1; state(0, 3) = 3",
                two + "evict(0, 3) = throws IllegalStateException; deliver(1) = 1; evict(0, 3) = 3; "
                        + "victimValue(0, 3) = 13",
                two + "read(0, 1) = throws IllegalStateException; deliver(0) = 1; read(0, 1) = -1");
    }
}
