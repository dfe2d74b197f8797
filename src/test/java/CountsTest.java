/** Promises 24 to 29: the counts, the order of a line, and the checksum. */
final class CountsTest {
    private static final Checks checks = new Checks("CountsTest");

    public static void main(String[] args) {
        promise24Hits();
        promise25Misses();
        promises26And27Writebacks();
        promise28IsInOrder();
        promise29DigestOfANewObject();
        promise29DigestInARace();
        checks.end();
    }

    private static void promise24Hits() {
        CacheDirectory x = new CacheDirectory();
        checks.refusesNoCache(x, "24: hits", c -> x.hits(c));
        Checks.readThrough(x, 3, 0);
        checks.same("24: a request is no hit", x.hits(3), 0);
        x.read(3, 0);
        x.read(3, 0);
        checks.same("24: reads", x.hits(3), 2);
        Checks.writeThrough(x, 3, 0, 1);
        checks.same("24: an upgrade is no hit", x.hits(3), 2);
        x.write(3, 0, 1);
        checks.same("24: a write", x.hits(3), 3);
        checks.same("24: of this cache alone", x.hits(0), 0);
        x.read(3, 1);
        checks.refuses(x, "24: a refused read", Checks.BAD_STATE, () -> x.read(3, 0));
        checks.same("24: is no hit", x.hits(3), 3);
    }

    private static void promise25Misses() {
        CacheDirectory x = new CacheDirectory();
        checks.refusesNoCache(x, "25: misses", c -> x.misses(c));
        x.read(3, 0);
        checks.same("25: from the start of a request", x.misses(3), 1);
        checks.refuses(x, "25: a refused read", Checks.BAD_STATE, () -> x.read(3, 1));
        x.settle(10);
        x.read(3, 0);
        checks.same("25: neither that nor a hit", x.misses(3), 1);
        Checks.writeThrough(x, 3, 0, 1);
        checks.same("25: an upgrade", x.misses(3), 2);
        x.write(3, 0, 1);
        checks.same("25: no writing at once", x.misses(3), 2);
        checks.same("25: of this cache alone", x.misses(0), 0);
    }

    private static void promises26And27Writebacks() {
        CacheDirectory x = new CacheDirectory();
        Checks.writeThrough(x, 0, 0, 1);
        Checks.writeThrough(x, 0, 15, 1);
        x.evict(0, 0);
        checks.same("26: not when PUT is sent", x.writebacks(), 0);
        x.deliver(0);
        checks.same("26: when it is processed", x.writebacks(), 1);
        x.settle(10);
        x.evict(0, 15);
        x.write(1, 15, 2);
        x.deliver(1);
        x.deliver(0);
        checks.same("27: not while PUT waits", x.lateWritebacks(), 0);
        x.settle(10);
        checks.same("27: when it is processed late", x.lateWritebacks(), 1);
        checks.same("26: a late one is none", x.writebacks(), 1);
        x.evict(1, 15);
        x.settle(10);
        checks.same("26: of all caches and lines", x.writebacks(), 2);
        checks.same("27: in time is not late", x.lateWritebacks(), 1);
        Checks.writeThrough(x, 2, 0, 1);
        x.evict(2, 0);
        x.write(3, 0, 2);
        x.deliver(1);
        x.settle(10);
        checks.same("27: of all caches and lines", x.lateWritebacks(), 2);
        aSharedLineIsNotWrittenBack();
        aWritebackAfterTheNextOwnersIsLate();
    }

    private static void aSharedLineIsNotWrittenBack() {
        CacheDirectory x = new CacheDirectory();
        Checks.readThrough(x, 0, 0);
        x.evict(0, 0);
        x.settle(10);
        checks.same("26: not of a SHARED line", x.writebacks(), 0);
        checks.same("27: not of a SHARED line", x.lateWritebacks(), 0);
    }

    private static void aWritebackAfterTheNextOwnersIsLate() {
        CacheDirectory x = new CacheDirectory();
        Checks.writeThrough(x, 0, 5, 1);
        x.evict(0, 5);
        x.write(1, 5, 2);
        for (int i = 0; i < 4; i++) {
            x.deliver(1);
        }
        x.evict(1, 5);
        x.deliver(1);
        checks.same("26: the next owner's", x.writebacks(), 1);
        x.deliver(0);
        checks.same("27: there is no owner any more", x.lateWritebacks(), 1);
        checks.same("27: and the memory is the next owner's", x.memory(5), 2);
    }

    private static void promise28IsInOrder() {
        CacheDirectory x = new CacheDirectory();
        checks.refusesNoLine(x, "28: isInOrder", l -> x.isInOrder(l));
        checks.same("28: in no cache", x.isInOrder(15), true);
        Checks.readThrough(x, 0, 15);
        checks.same("28: SHARED in one", x.isInOrder(15), true);
        Checks.readThrough(x, 1, 15);
        checks.same("28: SHARED in two", x.isInOrder(15), true);
        Checks.writeThrough(x, 2, 15, 7);
        checks.same("28: MODIFIED", x.isInOrder(15), true);
        Checks.readThrough(x, 3, 15);
        checks.same("28: OWNED and SHARED", x.isInOrder(15), true);
        x.write(0, 15, 8);
        while (x.messageCount() > 0) {
            x.deliver(x.messageCount() - 1);
            checks.same("28: while the next one writes", x.isInOrder(15), true);
        }
        checks.same("28: other lines", x.isInOrder(0), true);
    }

    private static void promise29DigestOfANewObject() {
        long due = 47;
        for (int line = 0; line < 16; line++) {
            for (int part : new int[] {0, -1, 0, 0, 0, 0, -1, -1, 0, -1, -1, 0, -1, -1, 0, -1, -1}) {
                due = due * 31 + part;
            }
        }
        for (int cache = 0; cache < 4; cache++) {
            due = due * 31 - 1;
        }
        checks.same("29: a new object", new CacheDirectory().digest(), due);
    }

    private static void promise29DigestInARace() {
        for (int deliveries = 0; deliveries <= 12; deliveries++) {
            CacheDirectory x = raced(deliveries);
            checks.same("29: after " + deliveries + " deliveries", x.digest(), digestOf(x));
        }
    }

    /** Made anew for each look, for digestOf takes more than half of the 512 calls of an object. */
    private static CacheDirectory raced(int deliveries) {
        CacheDirectory x = new CacheDirectory();
        Checks.writeThrough(x, 0, 15, 9999);
        x.evict(0, 15);
        Checks.readThrough(x, 3, 0);
        Checks.writeThrough(x, 2, 0, 3);
        x.write(1, 15, 2);
        x.read(3, 15);
        for (int i = 0; i < deliveries && x.messageCount() > 0; i++) {
            x.deliver((i * 5 + 1) % x.messageCount());
        }
        return x;
    }

    private static long digestOf(CacheDirectory x) {
        long d = 47;
        for (int line = 0; line < 16; line++) {
            d = d * 31 + x.memory(line);
            d = d * 31 + x.owner(line);
            d = d * 31 + x.sharers(line);
            d = d * 31 + (x.isBusy(line) ? 1 : 0);
            d = d * 31 + x.queued(line);
            for (int cache = 0; cache < 4; cache++) {
                d = d * 31 + x.state(cache, line);
                d = d * 31 + (x.state(cache, line) == 0 ? -1 : x.value(cache, line));
                d = d * 31 + x.victimValue(cache, line);
            }
        }
        for (int cache = 0; cache < 4; cache++) {
            d = d * 31 + x.openLine(cache);
        }
        for (int i = 0; i < x.messageCount(); i++) {
            for (int part : Checks.message(x, i)) {
                d = d * 31 + part;
            }
        }
        return d;
    }
}
