import java.util.Random;

/**
 * Long runs of calls in all orders of delivery, each answer held against the Model. The seeds are
 * written down, so that every run is the same each time.
 */
final class RandomRunsTest {
    private static final int RUNS = 1000;
    private static final int CALLS = 512;
    private static final int DIGEST_EVERY = 7;
    private static final int LOOKS_AT_LAST = 17;
    private static final int[] WRONG = {-1, Integer.MIN_VALUE, Integer.MAX_VALUE, 1001, 10000, 16, 4};

    private static final Checks checks = new Checks("RandomRunsTest");

    private final Random random;
    private final CacheDirectory x = new CacheDirectory();
    private final Model model = new Model();
    private final int lines;
    private final int wrongInHundred;

    private RandomRunsTest(int seed) {
        random = new Random(seed);
        lines = 1 + random.nextInt(seed % 2 == 0 ? 5 : 16);
        wrongInHundred = seed % 3 == 0 ? 15 : 1;
    }

    public static void main(String[] args) {
        for (int seed = 0; seed < RUNS; seed++) {
            new RandomRunsTest(seed).run(seed);
        }
        checks.end();
    }

    private void run(int seed) {
        StringBuilder calls = new StringBuilder();
        for (int cache = 0; cache < 4; cache++) {
            both(calls, 0, cache, 1 + random.nextInt(4), random.nextInt(3));
        }
        for (int made = 4; made < CALLS - LOOKS_AT_LAST; made++) {
            boolean isDigest = made % DIGEST_EVERY == 0;
            String[] outcomes = isDigest ? digests(calls)
                    : both(calls, kindOfCall(), argument(4), argument(lines), argument(10000));
            if (!outcomes[0].equals(outcomes[1])) {
                checks.same("seed " + seed + ": " + calls, outcomes[0], outcomes[1]);
                return;
            }
        }
        checks.same("seed " + seed + ": the digest at last", x.digest(), model.digest());
        for (int line = 0; line < 16; line++) {
            checks.same("seed " + seed + ": is in order", x.isInOrder(line), true);
        }
    }

    private String[] digests(StringBuilder calls) {
        calls.append(" digest()");
        return pair(() -> x.digest(), () -> model.digest());
    }

    /** Requests and deliveries make the races; the other calls only look. */
    private int kindOfCall() {
        int chance = random.nextInt(100);
        return chance < 20 ? 1 : chance < 40 ? 2 : chance < 50 ? 3 : chance < 80 ? 4 : 5 + random.nextInt(23);
    }

    private int argument(int bound) {
        return random.nextInt(100) < wrongInHundred ? WRONG[random.nextInt(WRONG.length)] : random.nextInt(bound);
    }

    private String[] both(StringBuilder calls, int kind, int cache, int line, int value) {
        int onTheWay = model.messageCount();
        int index = onTheWay > 0 && value >= 0 && value < 10000 ? value % onTheWay : value;
        int few = value > 10 && value < 10000 ? value % 10 : value;
        calls.append(" ").append(kind).append("(").append(cache).append(", ").append(line).append(", ")
                .append(value).append(")");
        return switch (kind) {
            case 0, 25 -> pair(() -> x.setRoom(cache, line, few), () -> model.setRoom(cache, line, few));
            case 1 -> pair(() -> x.read(cache, line), () -> model.read(cache, line));
            case 2 -> pair(() -> x.write(cache, line, value), () -> model.write(cache, line, value));
            case 3 -> pair(() -> x.evict(cache, line), () -> model.evict(cache, line));
            case 4 -> pair(() -> x.deliver(index), () -> model.deliver(index));
            case 5 -> pair(() -> x.settle(few), () -> model.settle(few));
            case 6 -> pair(() -> x.state(cache, line), () -> model.state(cache, line));
            case 7 -> pair(() -> x.value(cache, line), () -> model.value(cache, line));
            case 8 -> pair(() -> x.victimValue(cache, line), () -> model.victimValue(cache, line));
            case 9 -> pair(() -> x.openLine(cache), () -> model.openLine(cache));
            case 10 -> pair(() -> x.latestRead(cache), () -> model.latestRead(cache));
            case 11 -> pair(() -> x.lineAt(cache, few % 5), () -> model.lineAt(cache, few % 5));
            case 12 -> pair(() -> x.owner(line), () -> model.owner(line));
            case 13 -> pair(() -> x.sharers(line), () -> model.sharers(line));
            case 14 -> pair(() -> x.isBusy(line), () -> model.isBusy(line));
            case 15 -> pair(() -> x.queued(line), () -> model.queued(line));
            case 16 -> pair(() -> x.memory(line), () -> model.memory(line));
            case 17 -> pair(() -> x.messageCount(), () -> model.messageCount());
            case 18 -> pair(() -> x.messageKind(index), () -> model.messageKind(index));
            case 19 -> pair(() -> x.messageLine(index), () -> model.messageLine(index));
            case 20 -> pair(() -> x.messageFrom(index), () -> model.messageFrom(index));
            case 21 -> pair(() -> x.messageTo(index), () -> model.messageTo(index));
            case 22 -> pair(() -> x.hits(cache), () -> model.hits(cache));
            case 23 -> pair(() -> x.misses(cache), () -> model.misses(cache));
            case 24 -> pair(() -> x.writebacks(), () -> model.writebacks());
            case 26 -> pair(() -> x.lateWritebacks(), () -> model.lateWritebacks());
            default -> pair(() -> x.isInOrder(line), () -> model.isInOrder(line));
        };
    }

    private static String[] pair(Checks.Call got, Checks.Call due) {
        String modelled;
        try {
            modelled = String.valueOf(due.answer());
        } catch (RuntimeException e) {
            modelled = "throws." + e.getClass().getSimpleName();
        }
        return new String[] {Checks.outcome(got), modelled};
    }
}
