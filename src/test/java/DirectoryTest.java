import java.util.List;

/** Promises 12 to 16: what the directory knows of a line. */
final class DirectoryTest {
    private static final Checks checks = new Checks("DirectoryTest");

    public static void main(String[] args) {
        promise12Owner();
        promise13Sharers();
        promise14IsBusy();
        promise15Queued();
        promise15QueueIsServedInOrder();
        promise16Memory();
        checks.end();
    }

    private static void promise12Owner() {
        CacheDirectory x = new CacheDirectory();
        checks.refusesNoLine(x, "12: owner", l -> x.owner(l));
        Checks.readThrough(x, 1, 0);
        checks.same("12: a reader is no owner", x.owner(0), -1);
        x.write(0, 0, 1);
        checks.same("12: not before GET_MODIFIED is processed", x.owner(0), -1);
        x.deliver(0);
        checks.same("12: from then on", x.owner(0), 0);
        x.settle(10);
        checks.same("12: still", x.owner(0), 0);
        Checks.readThrough(x, 2, 0);
        checks.same("12: a reader takes nothing", x.owner(0), 0);
        Checks.writeThrough(x, 3, 0, 1);
        checks.same("12: the next writer", x.owner(0), 3);
        checks.same("12: of this line alone", x.owner(15), -1);
        x.evict(3, 0);
        checks.same("12: until PUT is processed", x.owner(0), 3);
        x.deliver(0);
        checks.same("12: none after PUT", x.owner(0), -1);
    }

    private static void promise13Sharers() {
        CacheDirectory x = new CacheDirectory();
        checks.refusesNoLine(x, "13: sharers", l -> x.sharers(l));
        x.read(3, 15);
        checks.same("13: not before GET_SHARED is processed", x.sharers(15), 0);
        x.deliver(0);
        checks.same("13: from then on", x.sharers(15), 8);
        x.settle(10);
        Checks.readThrough(x, 0, 15);
        Checks.readThrough(x, 1, 15);
        Checks.readThrough(x, 2, 15);
        checks.same("13: all", x.sharers(15), 15);
        x.evict(0, 15);
        checks.same("13: one that has evicted stays", x.sharers(15), 15);
        Checks.readThrough(x, 0, 15);
        checks.same("13: once only", x.sharers(15), 15);
        x.write(1, 15, 1);
        x.deliver(0);
        checks.same("13: none of a writer", x.sharers(15), 0);
        x.settle(20);
        Checks.readThrough(x, 2, 15);
        checks.same("13: an owner is no sharer", x.sharers(15), 4);
        x.evict(1, 15);
        x.settle(10);
        checks.same("13: PUT leaves the others", x.sharers(15), 4);
        checks.same("13: of this line alone", x.sharers(14), 0);
    }

    private static void promise14IsBusy() {
        CacheDirectory x = new CacheDirectory();
        checks.refusesNoLine(x, "14: isBusy", l -> x.isBusy(l));
        x.read(0, 0);
        checks.same("14: not before it is processed", x.isBusy(0), false);
        x.deliver(0);
        checks.same("14: with a read", x.isBusy(0), true);
        checks.same("14: with this line alone", x.isBusy(1), false);
        x.deliver(0);
        checks.same("14: until DONE", x.isBusy(0), true);
        x.deliver(0);
        checks.same("14: after DONE", x.isBusy(0), false);
        x.write(0, 15, 1);
        x.deliver(0);
        checks.same("14: with a write", x.isBusy(15), true);
        x.settle(10);
        checks.same("14: after its DONE", x.isBusy(15), false);
        x.evict(0, 15);
        x.deliver(0);
        checks.same("14: not with PUT", x.isBusy(15), false);
    }

    private static void promise15Queued() {
        CacheDirectory x = new CacheDirectory();
        checks.refusesNoLine(x, "15: queued", l -> x.queued(l));
        x.read(0, 9);
        x.read(1, 9);
        x.write(2, 9, 5);
        x.write(3, 8, 5);
        x.deliver(0);
        checks.same("15: the first does not wait", x.queued(9), 0);
        x.deliver(0);
        checks.same("15: the second does", x.queued(9), 1);
        x.deliver(0);
        checks.same("15: and the third", x.queued(9), 2);
        x.deliver(0);
        checks.same("15: another line does not", x.queued(8), 0);
        Checks.deliverKind(x, 5);
        checks.same("15: until DONE", x.queued(9), 2);
        Checks.deliverKind(x, 4);
        checks.same("15: DONE serves one request", x.queued(9), 1);
        checks.same("15: with which it is busy", x.isBusy(9), true);
        x.settle(50);
        checks.same("15: all are served", x.queued(9), 0);
    }

    private static void promise15QueueIsServedInOrder() {
        CacheDirectory x = new CacheDirectory();
        Checks.writeThrough(x, 0, 9, 1);
        x.evict(0, 9);
        x.write(1, 9, 2);
        x.read(2, 9);
        x.read(3, 9);
        x.deliver(1);
        checks.same("15: FORWARD_MODIFIED and the rest", Checks.kinds(x), List.of(3, 1, 1, 9));
        x.deliver(0);
        x.deliver(1);
        x.deliver(0);
        checks.same("15: PUT waits too", x.queued(9), 3);
        x.deliver(0);
        x.deliver(0);
        x.deliver(0);
        checks.same("15: DONE serves PUT and the next read", x.queued(9), 1);
        checks.same("15: in this order", Checks.kinds(x), List.of(11, 8));
        checks.same("15: PUT_DONE", Checks.message(x, 0), List.of(11, 9, -1, 0));
        checks.same("15: cache 3 came before cache 2", x.sharers(9), 8);
        x.settle(50);
        checks.same("15: then cache 2", x.sharers(9), 12);
    }

    private static void promise16Memory() {
        CacheDirectory x = new CacheDirectory();
        checks.refusesNoLine(x, "16: memory", l -> x.memory(l));
        Checks.writeThrough(x, 0, 15, 9999);
        Checks.readThrough(x, 1, 15);
        checks.same("16: not by writing or reading", x.memory(15), 0);
        x.evict(0, 15);
        checks.same("16: not before PUT is processed", x.memory(15), 0);
        x.deliver(0);
        checks.same("16: by PUT of the owner", x.memory(15), 9999);
        checks.same("16: of this line alone", x.memory(14), 0);
        x.settle(10);
        Checks.readThrough(x, 3, 15);
        checks.same("16: it is what is read", x.latestRead(3), 9999);
    }
}
