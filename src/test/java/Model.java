import java.util.ArrayList;
import java.util.LinkedHashMap;
import java.util.List;
import java.util.Map;
import java.util.NoSuchElementException;
import java.util.TreeMap;
import java.util.TreeSet;

/**
 * The document written down a second time, with the Java library and without a thought for its
 * rules, so that RandomRunsTest can hold the class against it.
 */
final class Model {
    private static final class Held {
        int state;
        int value;

        Held(int state, int value) {
            this.state = state;
            this.value = value;
        }
    }

    private record Message(String kind, int line, int from, int to, int value, int count, int requester) { }

    private static final List<String> KINDS = List.of("", "GET_SHARED", "GET_MODIFIED", "PUT", "DONE", "DATA",
            "GRANT", "INVALIDATE_DONE", "FORWARD_SHARED", "FORWARD_MODIFIED", "INVALIDATE", "PUT_DONE");

    private static final class Cache {
        int ways = 2;
        int victims = 1;
        /** By their latest use: the one whose latest use is the longest ago comes first. */
        final LinkedHashMap<Integer, Held> lines = new LinkedHashMap<>();
        final TreeMap<Integer, Integer> victimBuffer = new TreeMap<>();
        int open = -1;
        /** -1 for a request for reading. */
        int toWrite;
        Message answer;
        int acknowledged;
        int latestRead = -1;
        int hits;
        int misses;

        void use(int line) {
            lines.put(line, lines.remove(line));
        }
    }

    private static final class Entry {
        int memory;
        int owner = -1;
        final TreeSet<Integer> sharers = new TreeSet<>();
        boolean busy;
        final List<Message> queue = new ArrayList<>();
    }

    private final List<Cache> caches = new ArrayList<>();
    private final List<Entry> entries = new ArrayList<>();
    private final List<Message> way = new ArrayList<>();
    private int timely;
    private int late;

    Model() {
        for (int i = 0; i < 4; i++) {
            caches.add(new Cache());
        }
        for (int i = 0; i < 16; i++) {
            entries.add(new Entry());
        }
    }

    boolean setRoom(int cache, int ways, int victims) {
        Cache c = cache(cache);
        require(ways >= 1 && ways <= 4 && victims >= 0 && victims <= 2, new IllegalArgumentException());
        require(c.lines.isEmpty() && c.victimBuffer.isEmpty() && c.open == -1, new IllegalStateException());
        boolean other = c.ways != ways || c.victims != victims;
        c.ways = ways;
        c.victims = victims;
        return other;
    }

    int read(int cache, int line) {
        Cache c = cache(cache);
        entry(line);
        Held held = c.lines.get(line);
        requireAccess(c, line, held);
        if (held == null) {
            start(cache, line, -1);
            return -1;
        }
        c.use(line);
        c.hits++;
        return held.value;
    }

    boolean write(int cache, int line, int value) {
        Cache c = cache(cache);
        entry(line);
        require(value >= 0 && value <= 9999, new IllegalArgumentException());
        Held held = c.lines.get(line);
        requireAccess(c, line, held);
        if (held == null || held.state != 3) {
            start(cache, line, value);
            return false;
        }
        held.value = value;
        c.use(line);
        c.hits++;
        return true;
    }

    int evict(int cache, int line) {
        Cache c = cache(cache);
        entry(line);
        Held held = c.lines.get(line);
        require(held != null, new NoSuchElementException());
        require(c.open != line && canGo(c, held), new IllegalStateException());
        int state = held.state;
        remove(cache, line);
        return state;
    }

    int state(int cache, int line) {
        Cache c = cache(cache);
        entry(line);
        return c.lines.containsKey(line) ? c.lines.get(line).state : 0;
    }

    int value(int cache, int line) {
        Cache c = cache(cache);
        entry(line);
        require(c.lines.containsKey(line), new NoSuchElementException());
        return c.lines.get(line).value;
    }

    int victimValue(int cache, int line) {
        Cache c = cache(cache);
        entry(line);
        return c.victimBuffer.getOrDefault(line, -1);
    }

    int openLine(int cache) {
        return cache(cache).open;
    }

    int latestRead(int cache) {
        return cache(cache).latestRead;
    }

    int lineAt(int cache, int index) {
        List<Integer> lines = new ArrayList<>(cache(cache).lines.keySet());
        require(index >= 0 && index < lines.size(), new NoSuchElementException());
        return lines.get(index);
    }

    int owner(int line) {
        return entry(line).owner;
    }

    int sharers(int line) {
        return entry(line).sharers.stream().mapToInt(c -> (int) Math.pow(2, c)).sum();
    }

    boolean isBusy(int line) {
        return entry(line).busy;
    }

    int queued(int line) {
        return entry(line).queue.size();
    }

    int memory(int line) {
        return entry(line).memory;
    }

    int messageCount() {
        return way.size();
    }

    int messageKind(int index) {
        return KINDS.indexOf(message(index).kind);
    }

    int messageLine(int index) {
        return message(index).line;
    }

    int messageFrom(int index) {
        return message(index).from;
    }

    int messageTo(int index) {
        return message(index).to;
    }

    int deliver(int index) {
        Message m = message(index);
        way.remove(index);
        if (m.to != -1) {
            atCache(m);
        } else if (m.kind.equals("DONE")) {
            Entry e = entries.get(m.line);
            e.busy = false;
            while (!e.busy && !e.queue.isEmpty()) {
                atDirectory(e, e.queue.remove(0));
            }
        } else if (entries.get(m.line).busy) {
            entries.get(m.line).queue.add(m);
        } else {
            atDirectory(entries.get(m.line), m);
        }
        return way.size();
    }

    int settle(int most) {
        require(most >= 0 && most <= 1000, new IllegalArgumentException());
        int delivered = 0;
        while (delivered < most && !way.isEmpty()) {
            deliver(0);
            delivered++;
        }
        return delivered;
    }

    int hits(int cache) {
        return cache(cache).hits;
    }

    int misses(int cache) {
        return cache(cache).misses;
    }

    int writebacks() {
        return timely;
    }

    int lateWritebacks() {
        return late;
    }

    boolean isInOrder(int line) {
        entry(line);
        List<Held> all = caches.stream().map(c -> c.lines.get(line)).filter(h -> h != null).toList();
        boolean alone = all.size() <= 1 || all.stream().noneMatch(h -> h.state == 3);
        boolean oneOwner = all.stream().filter(h -> h.state >= 2).count() <= 1;
        return alone && oneOwner && all.stream().map(h -> h.value).distinct().count() <= 1;
    }

    long digest() {
        List<Integer> parts = new ArrayList<>();
        for (int line = 0; line < 16; line++) {
            parts.addAll(List.of(memory(line), owner(line), sharers(line), isBusy(line) ? 1 : 0, queued(line)));
            for (int cache = 0; cache < 4; cache++) {
                int state = state(cache, line);
                parts.addAll(List.of(state, state == 0 ? -1 : value(cache, line), victimValue(cache, line)));
            }
        }
        caches.forEach(c -> parts.add(c.open));
        way.forEach(m -> parts.addAll(List.of(KINDS.indexOf(m.kind), m.line, m.from, m.to)));
        return parts.stream().mapToLong(x -> x).reduce(47, (d, x) -> d * 31 + x);
    }

    private void start(int cache, int line, int toWrite) {
        Cache c = caches.get(cache);
        if (!c.lines.containsKey(line) && c.lines.size() == c.ways) {
            remove(cache, c.lines.keySet().iterator().next());
        }
        c.misses++;
        c.open = line;
        c.toWrite = toWrite;
        c.answer = null;
        c.acknowledged = 0;
        send(toWrite == -1 ? "GET_SHARED" : "GET_MODIFIED", line, cache, -1, -1, 0, -1);
    }

    private void remove(int cache, int line) {
        Cache c = caches.get(cache);
        Held held = c.lines.remove(line);
        if (held.state != 1) {
            c.victimBuffer.put(line, held.value);
            send("PUT", line, cache, -1, held.value, 0, -1);
        }
    }

    private void atDirectory(Entry e, Message m) {
        int c = m.from;
        switch (m.kind) {
            case "GET_SHARED" -> {
                e.sharers.add(c);
                e.busy = true;
                if (e.owner != -1) {
                    send("FORWARD_SHARED", m.line, -1, e.owner, -1, 0, c);
                } else {
                    send("DATA", m.line, -1, c, e.memory, 0, -1);
                }
            }
            case "GET_MODIFIED" -> {
                TreeSet<Integer> others = new TreeSet<>(e.sharers);
                others.remove(c);
                others.remove(e.owner);
                others.forEach(s -> send("INVALIDATE", m.line, -1, s, -1, 0, c));
                if (e.owner == -1) {
                    send("DATA", m.line, -1, c, e.memory, others.size(), -1);
                } else if (e.owner == c) {
                    send("GRANT", m.line, -1, c, -1, others.size(), -1);
                } else {
                    send("FORWARD_MODIFIED", m.line, -1, e.owner, -1, others.size(), c);
                }
                e.owner = c;
                e.sharers.clear();
                e.busy = true;
            }
            case "PUT" -> {
                if (e.owner == c) {
                    e.memory = m.value;
                    e.owner = -1;
                    e.sharers.remove(c);
                    timely++;
                } else {
                    late++;
                }
                send("PUT_DONE", m.line, -1, c, -1, 0, -1);
            }
            default -> throw new AssertionError(m);
        }
    }

    private void atCache(Message m) {
        Cache c = caches.get(m.to);
        Held held = c.lines.get(m.line);
        switch (m.kind) {
            case "DATA", "GRANT" -> {
                mustHold(c.open == m.line && c.answer == null, m);
                c.answer = m;
                tryToComplete(c, m.to);
            }
            case "INVALIDATE_DONE" -> {
                mustHold(c.open == m.line, m);
                c.acknowledged++;
                tryToComplete(c, m.to);
            }
            case "FORWARD_SHARED" -> {
                mustHold(held != null || c.victimBuffer.containsKey(m.line), m);
                send("DATA", m.line, m.to, m.requester, held != null ? held.value : c.victimBuffer.get(m.line), 0, -1);
                if (held != null && held.state == 3) {
                    held.state = 2;
                }
            }
            case "FORWARD_MODIFIED" -> {
                mustHold(held != null || c.victimBuffer.containsKey(m.line), m);
                send("DATA", m.line, m.to, m.requester, held != null ? held.value : c.victimBuffer.get(m.line),
                        m.count, -1);
                c.lines.remove(m.line);
            }
            case "INVALIDATE" -> {
                if (held != null && held.state == 1) {
                    c.lines.remove(m.line);
                }
                send("INVALIDATE_DONE", m.line, m.to, m.requester, -1, 0, -1);
            }
            case "PUT_DONE" -> mustHold(c.victimBuffer.remove(m.line) != null, m);
            default -> throw new AssertionError(m);
        }
    }

    private void tryToComplete(Cache c, int number) {
        if (c.answer == null || c.acknowledged < c.answer.count) {
            return;
        }
        int line = c.open;
        c.lines.remove(line);
        c.lines.put(line, c.toWrite == -1 ? new Held(1, c.answer.value) : new Held(3, c.toWrite));
        mustHold(c.lines.size() <= c.ways, c.answer);
        if (c.toWrite == -1) {
            c.latestRead = c.answer.value;
        }
        c.open = -1;
        send("DONE", line, number, -1, -1, 0, -1);
    }

    private void send(String kind, int line, int from, int to, int value, int count, int requester) {
        way.add(new Message(kind, line, from, to, value, count, requester));
        mustHold(way.size() <= 64, way);
    }

    private void requireAccess(Cache c, int line, Held held) {
        require(c.open == -1 && !c.victimBuffer.containsKey(line), new IllegalStateException());
        boolean oneMustGo = held == null && c.lines.size() == c.ways;
        require(!oneMustGo || canGo(c, c.lines.values().iterator().next()), new IllegalStateException());
    }

    private static boolean canGo(Cache c, Held held) {
        return held.state == 1 || c.victimBuffer.size() < c.victims;
    }

    private Cache cache(int cache) {
        require(cache >= 0 && cache < 4, new IndexOutOfBoundsException());
        return caches.get(cache);
    }

    private Entry entry(int line) {
        require(line >= 0 && line < 16, new IndexOutOfBoundsException());
        return entries.get(line);
    }

    private Message message(int index) {
        require(index >= 0 && index < way.size(), new IndexOutOfBoundsException());
        return way.get(index);
    }

    private static void require(boolean holds, RuntimeException otherwise) {
        if (!holds) {
            throw otherwise;
        }
    }

    /** What the document leaves open because it cannot come about; a run that shows one is a find. */
    private static void mustHold(boolean holds, Object what) {
        if (!holds) {
            throw new AssertionError(what);
        }
    }
}
