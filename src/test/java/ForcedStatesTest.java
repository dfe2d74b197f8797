import java.lang.reflect.Field;

/**
 * Sentences of the document that speak of states which no run of calls is known to reach. The states
 * are forced upon the object through its private fields, whose names stand here and nowhere else.
 */
final class ForcedStatesTest {
    private static final int LINE = 6;

    private static final Checks checks = new Checks("ForcedStatesTest");

    public static void main(String[] args) throws ReflectiveOperationException {
        anOwnerAmongTheSharersIsNotCounted();
        putEndsASharer();
        invalidateLeavesWhatIsNotShared();
        aForwardTakesTheValueOfTheCache();
        promise28ModifiedInACache();
        promise28ModifiedOrOwnedInAtMostOneCache();
        promise28TheSameValue();
        checks.end();
    }

    private static void anOwnerAmongTheSharersIsNotCounted() throws ReflectiveOperationException {
        String sentence = "\"the number of sharers other than c and other than the owner\": ";
        for (int owner = 0; owner < 4; owner++) {
            int other = owner == 3 ? 0 : 3;
            int writer = owner == 1 ? 2 : 1;
            CacheDirectory x = ownedBy(owner, 1 << owner);
            x.write(writer, LINE, 5);
            x.deliver(0);
            checks.same(sentence + "the owner " + owner + " alone", Checks.kinds(x).toString(), "[9]");
            CacheDirectory y = ownedBy(owner, 1 << owner | 1 << writer | 1 << other);
            y.write(writer, LINE, 5);
            y.deliver(0);
            checks.same(sentence + "the owner " + owner + ", the writer, another", Checks.kinds(y).toString(), "[10, "
                    + "9]");
            checks.same(sentence + "it is the other", y.messageTo(0), other);
            y.settle(50);
            checks.same(sentence + "one acknowledgement is due", y.openLine(writer), -1);
        }
    }

    private static void putEndsASharer() throws ReflectiveOperationException {
        for (int owner = 0; owner < 4; owner++) {
            CacheDirectory x = ownedBy(owner, 15);
            x.evict(owner, LINE);
            x.deliver(0);
            checks.same("\"c is not a sharer any more\": " + owner, x.sharers(LINE), 15 - (1 << owner));
        }
    }

    private static CacheDirectory ownedBy(int owner, int sharers) throws ReflectiveOperationException {
        CacheDirectory x = new CacheDirectory();
        Checks.writeThrough(x, owner, LINE, 44);
        Object home = ((Object[]) inside(x, "homes"))[LINE];
        field(home, "sharerSet").setInt(home, sharers);
        return x;
    }

    private static void invalidateLeavesWhatIsNotShared() throws ReflectiveOperationException {
        for (int state = 1; state <= 3; state++) {
            CacheDirectory x = new CacheDirectory();
            Checks.readThrough(x, 1, LINE);
            x.write(0, LINE, 5);
            x.deliver(0);
            setRow(x, 1, "states", LINE, state);
            x.deliver(0);
            String what = "\"INVALIDATE: if the line is in the cache SHARED, it is removed from it\": state " + state;
            checks.same(what, x.state(1, LINE), state == 1 ? 0 : state);
            checks.same(what + " is acknowledged", Checks.message(x, 1).toString(), "[7, 6, 1, 0]");
        }
    }

    private static void aForwardTakesTheValueOfTheCache() throws ReflectiveOperationException {
        CacheDirectory x = ownedBy(0, 0);
        setRow(x, 0, "victimValues", LINE, 77);
        Checks.readThrough(x, 1, LINE);
        checks.same("\"if the line is in the victim buffer of c and not in its cache\": it is in both",
                x.latestRead(1), 44);
    }

    private static void promise28ModifiedInACache() throws ReflectiveOperationException {
        String sentence = "if it is MODIFIED in a cache, it is in no other cache";
        forced(sentence, "3 0 0 0", "5 5 5 5", true);
        forced(sentence, "0 0 0 3", "5 5 5 5", true);
        forced(sentence, "3 1 0 0", "5 5 5 5", false);
        forced(sentence, "1 0 0 3", "5 5 5 5", false);
        forced(sentence, "3 0 0 2", "5 5 5 5", false);
        forced(sentence, "0 1 3 1", "5 5 5 5", false);
    }

    private static void promise28ModifiedOrOwnedInAtMostOneCache() throws ReflectiveOperationException {
        String sentence = "it is MODIFIED or OWNED in at most one cache";
        forced(sentence, "0 0 0 0", "5 5 5 5", true);
        forced(sentence, "1 1 1 1", "5 5 5 5", true);
        forced(sentence, "2 1 1 1", "5 5 5 5", true);
        forced(sentence, "1 1 1 2", "5 5 5 5", true);
        forced(sentence, "2 0 0 2", "5 5 5 5", false);
        forced(sentence, "0 2 2 0", "5 5 5 5", false);
        forced(sentence, "2 2 1 1", "5 5 5 5", false);
        forced(sentence, "3 3 0 0", "5 5 5 5", false);
        forced(sentence, "3 2 0 0", "5 5 5 5", false);
    }

    private static void promise28TheSameValue() throws ReflectiveOperationException {
        String sentence = "all caches in which it is have the same value";
        forced(sentence, "1 1 0 0", "5 5 6 7", true);
        forced(sentence, "1 0 0 1", "5 6 7 5", true);
        forced(sentence, "1 1 0 0", "5 6 6 6", false);
        forced(sentence, "0 0 1 1", "5 5 5 6", false);
        forced(sentence, "1 0 0 1", "0 6 6 6", false);
        forced(sentence, "1 1 1 2", "5 5 5 6", false);
        forced(sentence, "2 1 1 1", "9999 0 0 0", false);
    }

    private static void forced(String sentence, String states, String values, boolean due)
            throws ReflectiveOperationException {
        for (int line : new int[] {0, 15}) {
            CacheDirectory x = new CacheDirectory();
            for (int cache = 0; cache < 4; cache++) {
                int state = Integer.parseInt(states.split(" ")[cache]);
                int value = Integer.parseInt(values.split(" ")[cache]);
                setRow(x, cache, "states", line, state);
                setRow(x, cache, "values", line, state == 0 ? -1 : value);
            }
            String what = "\"" + sentence + "\": line " + line + " in the states " + states + ", values " + values;
            checks.same(what, x.isInOrder(line), due);
            checks.same(what + ", another line", x.isInOrder(15 - line), true);
        }
    }

    private static void setRow(CacheDirectory x, int cache, String row, int line, int number)
            throws ReflectiveOperationException {
        ((int[]) inside(((Object[]) inside(x, "caches"))[cache], row))[line] = number;
    }

    private static Object inside(Object whole, String part) throws ReflectiveOperationException {
        return field(whole, part).get(whole);
    }

    private static Field field(Object whole, String part) throws ReflectiveOperationException {
        Field field = whole.getClass().getDeclaredField(part);
        field.setAccessible(true);
        return field;
    }
}
