/** The four examples of the document, call by call. */
final class ExamplesTest {
    private static final Checks checks = new Checks("ExamplesTest");

    public static void main(String[] args) {
        first();
        second();
        third();
        fourth();
        checks.end();
    }

    private static void first() {
        CacheDirectory x = new CacheDirectory();
        checks.same("1: write(0, 3, 7)", x.write(0, 3, 7), false);
        checks.same("1: messageKind(0)", x.messageKind(0), 2);
        checks.same("1: settle(10)", x.settle(10), 3);
        checks.same("1: state(0, 3)", x.state(0, 3), 3);
        checks.same("1: read(1, 3)", x.read(1, 3), -1);
        checks.same("1: settle(10) again", x.settle(10), 4);
        checks.same("1: latestRead(1)", x.latestRead(1), 7);
        checks.same("1: state(0, 3) again", x.state(0, 3), 2);
        checks.same("1: state(1, 3)", x.state(1, 3), 1);
        checks.same("1: owner(3)", x.owner(3), 0);
        checks.same("1: memory(3)", x.memory(3), 0);
    }

    private static void second() {
        CacheDirectory x = new CacheDirectory();
        checks.same("2: write(0, 5, 1)", x.write(0, 5, 1), false);
        checks.same("2: settle(10)", x.settle(10), 3);
        checks.same("2: evict(0, 5)", x.evict(0, 5), 3);
        checks.same("2: write(1, 5, 2)", x.write(1, 5, 2), false);
        checks.same("2: deliver(1)", x.deliver(1), 2);
        checks.same("2: deliver(0)", x.deliver(0), 1);
        checks.same("2: queued(5)", x.queued(5), 1);
        checks.same("2: settle(20)", x.settle(20), 4);
        checks.same("2: lateWritebacks()", x.lateWritebacks(), 1);
        checks.same("2: memory(5)", x.memory(5), 0);
        checks.same("2: value(1, 5)", x.value(1, 5), 2);
    }

    private static void third() {
        CacheDirectory x = new CacheDirectory();
        checks.same("3: read(0, 1)", x.read(0, 1), -1);
        checks.same("3: settle(10)", x.settle(10), 3);
        checks.same("3: read(1, 1)", x.read(1, 1), -1);
        checks.same("3: settle(10) again", x.settle(10), 3);
        checks.same("3: write(0, 1, 4)", x.write(0, 1, 4), false);
        checks.same("3: deliver(0)", x.deliver(0), 2);
        checks.same("3: messageKind(0)", x.messageKind(0), 10);
        checks.same("3: messageKind(1)", x.messageKind(1), 5);
        checks.same("3: deliver(1)", x.deliver(1), 1);
        checks.same("3: state(0, 1)", x.state(0, 1), 1);
        checks.same("3: settle(10) at last", x.settle(10), 3);
        checks.same("3: state(0, 1) at last", x.state(0, 1), 3);
        checks.same("3: state(1, 1)", x.state(1, 1), 0);
    }

    private static void fourth() {
        CacheDirectory x = new CacheDirectory();
        checks.same("4: setRoom(0, 1, 0)", x.setRoom(0, 1, 0), true);
        checks.same("4: write(0, 2, 9)", x.write(0, 2, 9), false);
        checks.same("4: settle(10)", x.settle(10), 3);
        checks.refuses(x, "4: read(0, 3)", Checks.BAD_STATE, () -> x.read(0, 3));
        checks.refuses(x, "4: evict(0, 2)", Checks.BAD_STATE, () -> x.evict(0, 2));
        checks.refuses(x, "4: value(0, 3)", Checks.NO_ELEMENT, () -> x.value(0, 3));
        checks.same("4: state(0, 2)", x.state(0, 2), 3);
        checks.refuses(x, "4: settle(1001)", Checks.BAD_ARGUMENT, () -> x.settle(1001));
    }
}
