/** The boundary cases of promises 12 to 23, a test for each "Returns" and "Throws" sentence. */
final class DirectoryCallBoundsTest {
    private static final String NO_INDEX = "IndexOutOfBoundsException";
    private static final String NO_LINE = "Throws IndexOutOfBoundsException if there is no such line";
    private static final String NO_MESSAGE = "Throws IndexOutOfBoundsException if there is no such message";

    private static final Runs runs = new Runs("DirectoryCallBoundsTest");

    public static void main(String[] args) {
        promise12Owner();
        promise13Sharers();
        promise14IsBusy();
        promise15Queued();
        promise16Memory();
        promise17MessageCount();
        promise18MessageKind();
        promise19MessageLine();
        promise20MessageFrom();
        promise21MessageTo();
        promises18To21NoSuchMessage();
        promise22Deliver();
        promise22NoSuchMessage();
        promise23Settle();
        promise23Returns();
        promise23Most();
        runs.end();
    }

    private static void promise12Owner() {
        runs.hold("Returns its owner; -1 if there is none.",
                "owner(0) = -1; read(0, 0); settle(9); owner(0) = -1",
                "write(0, 0, 5); owner(0) = -1; deliver(0); owner(0) = 0; owner(1) = -1; settle(9); owner(0) = 0; "
                        + "read(1, 0); settle(9); owner(0) = 0; write(3, 0, 6); settle(9); owner(0) = 3",
                "write(3, 15, 5); settle(9); owner(15) = 3; evict(3, 15); owner(15) = 3; deliver(0); owner(15) = -1");
        runs.bound(NO_LINE, "", "owner(?) = -1", 0, 15, NO_INDEX);
    }

    private static void promise13Sharers() {
        String sentence = "Returns the sum of the powers 2^c for all its sharers c.";
        runs.hold(sentence,
                "sharers(0) = 0; sharers(15) = 0",
                "read(0, 0); settle(9); sharers(0) = 1; sharers(1) = 0; read(1, 0); settle(9); sharers(0) = 3; "
                        + "read(2, 0); settle(9); sharers(0) = 7; read(3, 0); settle(9); sharers(0) = 15; "
                        + "write(3, 0, 1); deliver(0); sharers(0) = 0",
                "read(3, 15); settle(9); sharers(15) = 8; read(1, 15); settle(9); sharers(15) = 10",
                "write(3, 15, 1); settle(9); sharers(15) = 0; read(0, 15); settle(9); sharers(15) = 1");
        runs.bound(NO_LINE, "", "sharers(?) = 0", 0, 15, NO_INDEX);
    }

    private static void promise14IsBusy() {
        runs.hold("Returns whether the directory is busy with it.",
                "isBusy(0) = false; read(0, 0); isBusy(0) = false; deliver(0); isBusy(0) = true; isBusy(1) = false; "
                        + "deliver(0); isBusy(0) = true; deliver(0); isBusy(0) = false",
                "write(3, 15, 1); deliver(0); isBusy(15) = true; isBusy(14) = false; deliver(0); isBusy(15) = true; "
                        + "deliver(0); isBusy(15) = false; evict(3, 15); deliver(0); isBusy(15) = false");
        runs.bound(NO_LINE, "", "isBusy(?) = false", 0, 15, NO_INDEX);
    }

    private static void promise15Queued() {
        runs.hold("Returns the number of messages in its queue.",
                "queued(0) = 0; read(0, 0); read(1, 0); read(2, 0); write(3, 0, 1); queued(0) = 0; deliver(0); "
                        + "queued(0) = 0; deliver(0); queued(0) = 1; deliver(0); queued(0) = 2; deliver(0); "
                        + "queued(0) = 3; queued(1) = 0; settle(2); queued(0) = 2; settle(50); queued(0) = 0",
                "write(3, 15, 1); read(0, 15); deliver(0); deliver(0); queued(15) = 1; queued(14) = 0");
        runs.bound(NO_LINE, "", "queued(?) = 0", 0, 15, NO_INDEX);
    }

    private static void promise16Memory() {
        runs.hold("Returns the value of the memory.",
                "memory(0) = 0; write(0, 0, 9999); settle(9); memory(0) = 0; read(1, 0); settle(9); memory(0) = 0; "
                        + "evict(0, 0); memory(0) = 0; deliver(0); memory(0) = 9999; memory(1) = 0",
                "write(3, 15, 1); settle(9); evict(3, 15); settle(9); memory(15) = 1; write(3, 15, 0); settle(9); "
                        + "memory(15) = 1; evict(3, 15); settle(9); memory(15) = 0");
        runs.bound(NO_LINE, "", "memory(?) = 0", 0, 15, NO_INDEX);
    }

    private static void promise17MessageCount() {
        runs.hold("Returns the number of messages on the way.",
                "messageCount() = 0; read(0, 1); messageCount() = 1; read(1, 2); messageCount() = 2; deliver(0); "
                        + "messageCount() = 2; settle(4); messageCount() = 1; settle(1); messageCount() = 0",
                "read(0, 1); read(1, 1); deliver(0); deliver(0); queued(1) = 1; messageCount() = 1",
                "write(0, 1, 5); settle(9); write(0, 2, 6); settle(9); write(0, 3, 7); messageCount() = 2");
    }

    private static void promise18MessageKind() {
        runs.hold("Returns its kind, 1 to 11.",
                "read(0, 1); messageKind(0) = 1; deliver(0); messageKind(0) = 5; deliver(0); messageKind(0) = 4",
                "read(0, 1); settle(9); write(1, 1, 5); messageKind(0) = 2; deliver(0); messageKind(0) = 10; "
                        + "deliver(0); messageKind(1) = 7; messageKind(0) = 5",
                "write(0, 1, 5); settle(9); read(1, 1); deliver(0); messageKind(0) = 8; settle(9); write(0, 1, 6); "
                        + "deliver(0); messageKind(0) = 10; messageKind(1) = 6; settle(9); write(1, 1, 7); deliver(0); "
                        + "messageKind(0) = 9; settle(9); evict(1, 1); messageKind(0) = 3; deliver(0); "
                        + "messageKind(0) = 11");
    }

    private static void promise19MessageLine() {
        runs.hold("Returns its line.",
                "read(0, 0); write(3, 15, 5); messageLine(0) = 0; messageLine(1) = 15; deliver(0); "
                        + "messageLine(0) = 15; messageLine(1) = 0; deliver(0); messageLine(0) = 0; "
                        + "messageLine(1) = 15; "
                        + "settle(2); messageKind(0) = 4; messageLine(0) = 0; messageLine(1) = 15",
                "write(0, 15, 5); settle(9); read(1, 15); deliver(0); messageLine(0) = 15; settle(9); write(0, 15, 6); "
                        + "deliver(0); messageLine(0) = 15; messageLine(1) = 15; deliver(0); messageLine(1) = 15; "
                        + "settle(9); evict(0, 15); messageLine(0) = 15; deliver(0); messageLine(0) = 15");
    }

    private static void promise20MessageFrom() {
        runs.hold("Returns the cache that sent it; -1 if the directory did.",
                "read(0, 1); messageFrom(0) = 0; deliver(0); messageFrom(0) = -1; deliver(0); messageFrom(0) = 0",
                "write(3, 1, 5); messageFrom(0) = 3; deliver(0); messageFrom(0) = -1; deliver(0); messageFrom(0) = 3",
                "write(3, 1, 5); settle(9); read(0, 1); settle(1); messageFrom(0) = -1; settle(1); messageFrom(0) = 3; "
                        + "settle(9); write(3, 1, 6); settle(1); messageFrom(0) = -1; messageFrom(1) = -1; settle(1); "
                        + "messageFrom(1) = 0; settle(9); evict(3, 1); messageFrom(0) = 3; deliver(0); "
                        + "messageFrom(0) = -1");
    }

    private static void promise21MessageTo() {
        runs.hold("Returns the cache to which it goes; -1 for the directory.",
                "read(0, 1); messageTo(0) = -1; deliver(0); messageTo(0) = 0; deliver(0); messageTo(0) = -1",
                "write(3, 1, 5); messageTo(0) = -1; deliver(0); messageTo(0) = 3; deliver(0); messageTo(0) = -1",
                "write(3, 1, 5); settle(9); read(0, 1); settle(1); messageTo(0) = 3; settle(1); messageTo(0) = 0; "
                        + "settle(9); write(3, 1, 6); settle(1); messageTo(0) = 0; messageTo(1) = 3; settle(1); "
                        + "messageTo(1) = 3; settle(9); evict(3, 1); messageTo(0) = -1; deliver(0); messageTo(0) = 3");
    }

    private static void promises18To21NoSuchMessage() {
        for (String method : new String[] {"messageKind", "messageLine", "messageFrom", "messageTo"}) {
            noSuchMessage(method);
        }
    }

    /** The index that there is not, with none, one, two and five messages on the way. */
    private static void noSuchMessage(String method) {
        runs.hold(NO_MESSAGE + ": none is on the way",
                method + "(0) = throws " + NO_INDEX + ";" + method + "(-1) = throws " + NO_INDEX,
                "read(0, 1); settle(9);" + method + "(0) = throws " + NO_INDEX);
        String five = "read(0, 1); settle(9); read(1, 1); settle(9); write(2, 2, 5); settle(9); read(1, 3); "
                + "evict(2, 2); write(3, 1, 6); deliver(2); messageCount() = 5";
        runs.bound(NO_MESSAGE, "read(0, 1)", method + "(?)", 0, 0, NO_INDEX);
        runs.bound(NO_MESSAGE, "read(0, 1); read(1, 1)", method + "(?)", 0, 1, NO_INDEX);
        runs.bound(NO_MESSAGE, five, method + "(?)", 0, 4, NO_INDEX);
        runs.bound(NO_MESSAGE, five + "; settle(5); messageCount() = 4", method + "(?)", 0, 3, NO_INDEX);
    }

    private static void promise22Deliver() {
        runs.hold("Delivers a message. Returns the number of messages on the way afterwards.",
                "read(0, 1); deliver(0) = 1; deliver(0) = 1; deliver(0) = 0",
                "read(0, 1); read(1, 1); deliver(1) = 2; deliver(0) = 1; deliver(0) = 1; deliver(0) = 1",
                "read(0, 1); settle(9); read(1, 1); settle(9); read(2, 1); settle(9); write(3, 1, 5); deliver(0) = 4; "
                        + "deliver(3) = 3; deliver(0) = 3",
                "write(0, 1, 5); settle(9); evict(0, 1); deliver(0) = 1; deliver(0) = 0");
    }

    private static void promise22NoSuchMessage() {
        noSuchMessage("deliver");
    }

    private static void promise23Settle() {
        runs.hold("Delivers the message with the index 0 again and again, until no message is on the way, or some "
                + "number has been delivered.",
                "read(0, 1); read(1, 2); settle(0); kinds() = 1 1; settle(1); kinds() = 1 5; settle(1); kinds() = 5 5; "
                        + "settle(1); kinds() = 5 4; settle(1); kinds() = 4 4; settle(1); kinds() = 4; "
                        + "isBusy(1) = false; "
                        + "isBusy(2) = true; settle(1); kinds() = none; isBusy(2) = false",
                "read(0, 1); read(1, 1); settle(1000); sharers(1) = 3; state(0, 1) = 1; state(1, 1) = 1; "
                        + "kinds() = none");
    }

    private static void promise23Returns() {
        runs.hold("Returns how many were delivered.",
                "settle(0) = 0; settle(1) = 0; settle(1000) = 0",
                "read(0, 1); settle(0) = 0; settle(2) = 2; settle(0) = 0; settle(1) = 1; settle(1) = 0",
                "read(0, 1); settle(3) = 3; messageCount() = 0",
                "read(0, 1); settle(4) = 3; messageCount() = 0",
                "read(0, 1); settle(1000) = 3; messageCount() = 0",
                "read(0, 1); settle(999) = 3; settle(1000) = 0");
    }

    private static void promise23Most() {
        String sentence = "Throws IllegalArgumentException if most is not 0 to 1000";
        runs.bound(sentence, "", "settle(?) = 0", 0, 1000, "IllegalArgumentException");
        runs.bound(sentence, "read(0, 1)", "settle(?)", 0, 1000, "IllegalArgumentException");
        runs.hold(sentence, "read(0, 1); settle(-1) = throws IllegalArgumentException; kinds() = 1; settle(0) = 0; "
                + "kinds() = 1; settle(1001) = throws IllegalArgumentException; kinds() = 1; settle(1000) = 3");
    }
}
