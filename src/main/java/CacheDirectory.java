import java.util.ArrayList;
import java.util.NoSuchElementException;

/**
 * A model of cache coherence by a directory. Everything that the caches and the directory tell one
 * another is a message, and the caller decides in which order the messages are delivered.
 */
public final class CacheDirectory {
    private static final int CACHES = 4;
    private static final int LINES = 16;
    private static final int MOST_WAYS = 4;
    private static final int MOST_VICTIMS = 2;
    private static final int HIGHEST_VALUE = 9999;
    private static final int MOST_DELIVERIES = 1000;

    private static final int ABSENT = 0;
    private static final int SHARED = 1;
    private static final int OWNED = 2;
    private static final int MODIFIED = 3;

    private static final int GET_SHARED = 1;
    private static final int GET_MODIFIED = 2;
    private static final int PUT = 3;
    private static final int DONE = 4;
    private static final int DATA = 5;
    private static final int GRANT = 6;
    private static final int INVALIDATE_DONE = 7;
    private static final int FORWARD_SHARED = 8;
    private static final int FORWARD_MODIFIED = 9;
    private static final int INVALIDATE = 10;
    private static final int PUT_DONE = 11;

    /** Stands for no cache, no line and no value. */
    private static final int NONE = -1;
    /** Stands for the directory, where a cache could stand. */
    private static final int DIRECTORY = -1;

    private final Network network;
    private final Cache[] caches;
    private final Home[] homes;

    public CacheDirectory() {
        network = new Network();
        caches = new Cache[CACHES];
        for (int i = 0; i < CACHES; i++) {
            caches[i] = new Cache(i, network);
        }
        homes = new Home[LINES];
        for (int i = 0; i < LINES; i++) {
            homes[i] = new Home(i, network);
        }
    }

    public boolean setRoom(int cache, int ways, int victims)
            throws IndexOutOfBoundsException, IllegalArgumentException, IllegalStateException {
        Cache chosen = cacheAt(cache);
        if (ways < 1 || ways > MOST_WAYS) {
            throw new IllegalArgumentException("ways is not 1 to 4");
        }
        if (victims < 0 || victims > MOST_VICTIMS) {
            throw new IllegalArgumentException("victims is not 0 to 2");
        }
        if (chosen.isInUse()) {
            throw new IllegalStateException("the cache holds a line, or a request is open");
        }
        boolean isAnother = chosen.ways != ways || chosen.victimRoom != victims;
        chosen.ways = ways;
        chosen.victimRoom = victims;
        return isAnother;
    }

    public int read(int cache, int line) throws IndexOutOfBoundsException, IllegalStateException {
        Cache chosen = cacheAt(cache);
        checkLine(line);
        checkAccess(chosen, line);
        if (chosen.holds(line)) {
            chosen.hitCount++;
            chosen.markUsed(line);
            return chosen.values[line];
        }
        chosen.startRequest(line, false, NONE);
        return NONE;
    }

    public boolean write(int cache, int line, int value)
            throws IndexOutOfBoundsException, IllegalArgumentException, IllegalStateException {
        Cache chosen = cacheAt(cache);
        checkLine(line);
        if (value < 0 || value > HIGHEST_VALUE) {
            throw new IllegalArgumentException("value is not 0 to 9999");
        }
        checkAccess(chosen, line);
        if (chosen.states[line] == MODIFIED) {
            chosen.hitCount++;
            chosen.store(line, MODIFIED, value);
            return true;
        }
        chosen.startRequest(line, true, value);
        return false;
    }

    public int evict(int cache, int line)
            throws IndexOutOfBoundsException, NoSuchElementException, IllegalStateException {
        Cache chosen = cacheAt(cache);
        checkLine(line);
        checkHeld(chosen, line);
        if (chosen.request.line == line) {
            throw new IllegalStateException("a request for this line is open");
        }
        if (chosen.lacksVictimRoomFor(line)) {
            throw new IllegalStateException("the victim buffer has no room");
        }
        int stateBefore = chosen.states[line];
        chosen.moveOut(line);
        return stateBefore;
    }

    public int state(int cache, int line) throws IndexOutOfBoundsException {
        Cache chosen = cacheAt(cache);
        checkLine(line);
        return chosen.states[line];
    }

    public int value(int cache, int line) throws IndexOutOfBoundsException, NoSuchElementException {
        Cache chosen = cacheAt(cache);
        checkLine(line);
        checkHeld(chosen, line);
        return chosen.values[line];
    }

    public int victimValue(int cache, int line) throws IndexOutOfBoundsException {
        Cache chosen = cacheAt(cache);
        checkLine(line);
        return chosen.victimValues[line];
    }

    public int openLine(int cache) throws IndexOutOfBoundsException {
        return cacheAt(cache).request.line;
    }

    public int latestRead(int cache) throws IndexOutOfBoundsException {
        return cacheAt(cache).latestResult;
    }

    public int lineAt(int cache, int index) throws IndexOutOfBoundsException, NoSuchElementException {
        Cache chosen = cacheAt(cache);
        if (index < 0 || index >= chosen.lineCount) {
            throw new NoSuchElementException("there is no such index");
        }
        return chosen.useOrder[index];
    }

    public int owner(int line) throws IndexOutOfBoundsException {
        return homeOf(line).ownerCache;
    }

    public int sharers(int line) throws IndexOutOfBoundsException {
        return homeOf(line).sharerSet;
    }

    public boolean isBusy(int line) throws IndexOutOfBoundsException {
        return homeOf(line).busy;
    }

    public int queued(int line) throws IndexOutOfBoundsException {
        return homeOf(line).waiting.size();
    }

    public int memory(int line) throws IndexOutOfBoundsException {
        return homeOf(line).memoryValue;
    }

    public int messageCount() {
        return network.onTheWay.size();
    }

    public int messageKind(int index) throws IndexOutOfBoundsException {
        return messageAt(index).kind;
    }

    public int messageLine(int index) throws IndexOutOfBoundsException {
        return messageAt(index).line;
    }

    public int messageFrom(int index) throws IndexOutOfBoundsException {
        return messageAt(index).sender;
    }

    public int messageTo(int index) throws IndexOutOfBoundsException {
        return messageAt(index).receiver;
    }

    public int deliver(int index) throws IndexOutOfBoundsException {
        handOver(index);
        return network.onTheWay.size();
    }

    public int settle(int most) throws IllegalArgumentException {
        if (most < 0 || most > MOST_DELIVERIES) {
            throw new IllegalArgumentException("most is not 0 to 1000");
        }
        int delivered = 0;
        while (delivered < most && !network.onTheWay.isEmpty()) {
            handOver(0);
            delivered++;
        }
        return delivered;
    }

    public int hits(int cache) throws IndexOutOfBoundsException {
        return cacheAt(cache).hitCount;
    }

    public int misses(int cache) throws IndexOutOfBoundsException {
        return cacheAt(cache).missCount;
    }

    public int writebacks() {
        int sum = 0;
        for (int line = 0; line < LINES; line++) {
            sum += homes[line].timelyPuts;
        }
        return sum;
    }

    public int lateWritebacks() {
        int sum = 0;
        for (int line = 0; line < LINES; line++) {
            sum += homes[line].latePuts;
        }
        return sum;
    }

    public boolean isInOrder(int line) throws IndexOutOfBoundsException {
        checkLine(line);
        int holders = 0;
        int owners = 0;
        int modifiers = 0;
        int common = NONE;
        for (int i = 0; i < CACHES; i++) {
            Cache each = caches[i];
            if (each.holds(line)) {
                if (holders > 0 && each.values[line] != common) {
                    return false;
                }
                common = each.values[line];
                holders++;
                owners += each.states[line] == SHARED ? 0 : 1;
                modifiers += each.states[line] == MODIFIED ? 1 : 0;
            }
        }
        return owners <= 1 && (modifiers == 0 || holders == 1);
    }

    public long digest() {
        long sum = 47;
        for (int line = 0; line < LINES; line++) {
            sum = addLine(sum, line);
        }
        for (int i = 0; i < CACHES; i++) {
            sum = sum * 31 + caches[i].request.line;
        }
        for (int i = 0; i < network.onTheWay.size(); i++) {
            Message each = network.onTheWay.get(i);
            sum = sum * 31 + each.kind;
            sum = sum * 31 + each.line;
            sum = sum * 31 + each.sender;
            sum = sum * 31 + each.receiver;
        }
        return sum;
    }

    private long addLine(long before, int line) {
        Home home = homeOf(line);
        long sum = before * 31 + home.memoryValue;
        sum = sum * 31 + home.ownerCache;
        sum = sum * 31 + home.sharerSet;
        sum = sum * 31 + (home.busy ? 1 : 0);
        sum = sum * 31 + home.waiting.size();
        for (int i = 0; i < CACHES; i++) {
            sum = sum * 31 + caches[i].states[line];
            sum = sum * 31 + caches[i].values[line];
            sum = sum * 31 + caches[i].victimValues[line];
        }
        return sum;
    }

    private Cache cacheAt(int cache) {
        if (cache < 0 || cache >= CACHES) {
            throw new IndexOutOfBoundsException("there is no such cache");
        }
        return caches[cache];
    }

    private Home homeOf(int line) {
        checkLine(line);
        return homes[line];
    }

    private Message messageAt(int index) {
        if (index < 0 || index >= network.onTheWay.size()) {
            throw new IndexOutOfBoundsException("there is no such message");
        }
        return network.onTheWay.get(index);
    }

    private static void checkLine(int line) {
        if (line < 0 || line >= LINES) {
            throw new IndexOutOfBoundsException("there is no such line");
        }
    }

    private static void checkHeld(Cache chosen, int line) {
        if (!chosen.holds(line)) {
            throw new NoSuchElementException("the line is not in the cache");
        }
    }

    private static void checkAccess(Cache chosen, int line) {
        if (chosen.request.line != NONE) {
            throw new IllegalStateException("a request of this cache is open");
        }
        if (chosen.victimValues[line] != NONE) {
            throw new IllegalStateException("the line is in the victim buffer");
        }
        if (chosen.needsWayFor(line) && chosen.lacksVictimRoomFor(chosen.useOrder[0])) {
            throw new IllegalStateException("the victim buffer has no room");
        }
    }

    private void handOver(int index) {
        Message message = messageAt(index);
        network.onTheWay.remove(index);
        if (message.receiver == DIRECTORY) {
            homeOf(message.line).receive(message);
        } else {
            cacheAt(message.receiver).receive(message);
        }
    }

    /** What one party tells another; what a kind does not need stays as it is at first. */
    private static final class Message {
        final int kind;
        final int line;
        final int sender;
        final int receiver;
        int carried = NONE;
        int count = 0;
        int requester = NONE;

        Message(int kind, int line, int sender, int receiver) {
            this.kind = kind;
            this.line = line;
            this.sender = sender;
            this.receiver = receiver;
        }
    }

    /** The messages on the way, in the order in which they were sent. */
    private static final class Network {
        final ArrayList<Message> onTheWay = new ArrayList<>();

        /** Answers the message, so that the sender can add what this kind carries. */
        Message send(int kind, int line, int sender, int receiver) {
            Message message = new Message(kind, line, sender, receiver);
            onTheWay.add(message);
            return message;
        }
    }

    /** The one request that a cache can have open; it is used again for the next. */
    private static final class Request {
        int line = NONE;
        boolean forWriting;
        int toWrite;
        boolean answered;
        int received;
        int invalidationsDue;
        int invalidationsDone;

        void open(int newLine, boolean newForWriting, int newToWrite) {
            line = newLine;
            forWriting = newForWriting;
            toWrite = newToWrite;
            answered = false;
            invalidationsDone = 0;
        }

        boolean isComplete() {
            return answered && invalidationsDone == invalidationsDue;
        }
    }

    private static final class Cache {
        final int number;
        final Network network;
        final Request request = new Request();
        final int[] states = new int[LINES];
        /** NONE for a line that is not in the cache. */
        final int[] values = new int[LINES];
        /** NONE for a line that is not in the victim buffer. */
        final int[] victimValues = new int[LINES];
        /** The lines in the cache; the one whose latest use is the longest ago comes first. */
        final int[] useOrder = new int[MOST_WAYS];
        int lineCount = 0;
        int victimCount = 0;
        int ways = 2;
        int victimRoom = 1;
        int latestResult = NONE;
        int hitCount = 0;
        int missCount = 0;

        Cache(int number, Network network) {
            this.number = number;
            this.network = network;
            for (int line = 0; line < LINES; line++) {
                values[line] = NONE;
                victimValues[line] = NONE;
            }
        }

        boolean isInUse() {
            return lineCount > 0 || victimCount > 0 || request.line != NONE;
        }

        boolean holds(int line) {
            return states[line] != ABSENT;
        }

        boolean needsWayFor(int line) {
            return !holds(line) && lineCount >= ways;
        }

        boolean lacksVictimRoomFor(int line) {
            return states[line] != SHARED && victimCount >= victimRoom;
        }

        void startRequest(int line, boolean forWriting, int toWrite) {
            if (needsWayFor(line)) {
                moveOut(useOrder[0]);
            }
            missCount++;
            request.open(line, forWriting, toWrite);
            network.send(forWriting ? GET_MODIFIED : GET_SHARED, line, number, DIRECTORY);
        }

        /** A SHARED line needs no writeback: another place has its value too. */
        void moveOut(int line) {
            if (states[line] != SHARED) {
                victimValues[line] = values[line];
                victimCount++;
                network.send(PUT, line, number, DIRECTORY).carried = values[line];
            }
            drop(line);
        }

        void receive(Message message) {
            switch (message.kind) {
                case DATA:
                case GRANT:
                    request.answered = true;
                    request.received = message.carried;
                    request.invalidationsDue = message.count;
                    finishIfComplete(message.line);
                    break;
                case INVALIDATE_DONE:
                    request.invalidationsDone++;
                    finishIfComplete(message.line);
                    break;
                case FORWARD_SHARED:
                case FORWARD_MODIFIED:
                    passOn(message);
                    break;
                case INVALIDATE:
                    if (states[message.line] == SHARED) {
                        drop(message.line);
                    }
                    network.send(INVALIDATE_DONE, message.line, number, message.requester);
                    break;
                case PUT_DONE:
                    victimValues[message.line] = NONE;
                    victimCount--;
                    break;
                default:
                    break;
            }
        }

        private void finishIfComplete(int line) {
            if (!request.isComplete()) {
                return;
            }
            if (request.forWriting) {
                store(line, MODIFIED, request.toWrite);
            } else {
                store(line, SHARED, request.received);
                latestResult = request.received;
            }
            request.line = NONE;
            network.send(DONE, line, number, DIRECTORY);
        }

        private void passOn(Message forward) {
            int line = forward.line;
            Message data = network.send(DATA, line, number, forward.requester);
            data.carried = holds(line) ? values[line] : victimValues[line];
            data.count = forward.count;
            if (forward.kind == FORWARD_MODIFIED) {
                drop(line);
            } else if (states[line] == MODIFIED) {
                states[line] = OWNED;
            }
        }

        void store(int line, int newState, int newValue) {
            states[line] = newState;
            values[line] = newValue;
            markUsed(line);
        }

        void drop(int line) {
            states[line] = ABSENT;
            values[line] = NONE;
            leaveUseOrder(line);
        }

        void markUsed(int line) {
            leaveUseOrder(line);
            if (lineCount < MOST_WAYS) {
                useOrder[lineCount] = line;
                lineCount++;
            }
        }

        private void leaveUseOrder(int line) {
            int kept = 0;
            for (int i = 0; i < lineCount; i++) {
                if (useOrder[i] != line) {
                    useOrder[kept] = useOrder[i];
                    kept++;
                }
            }
            lineCount = kept;
        }
    }

    /** What the memory and the directory know of one line. */
    private static final class Home {
        final int line;
        final Network network;
        final ArrayList<Message> waiting = new ArrayList<>();
        int memoryValue = 0;
        int ownerCache = NONE;
        int sharerSet = 0;
        boolean busy = false;
        int timelyPuts = 0;
        int latePuts = 0;

        Home(int line, Network network) {
            this.line = line;
            this.network = network;
        }

        void receive(Message message) {
            if (message.kind == DONE) {
                busy = false;
                for (int left = waiting.size(); left > 0 && !busy && !waiting.isEmpty(); left--) {
                    process(waiting.remove(0));
                }
            } else if (busy) {
                waiting.add(message);
            } else {
                process(message);
            }
        }

        private void process(Message message) {
            switch (message.kind) {
                case GET_SHARED:
                    processRead(message.sender);
                    break;
                case GET_MODIFIED:
                    processWrite(message.sender);
                    break;
                case PUT:
                    processPut(message);
                    break;
                default:
                    break;
            }
        }

        private void processRead(int reader) {
            if (ownerCache == NONE) {
                network.send(DATA, line, DIRECTORY, reader).carried = memoryValue;
            } else {
                network.send(FORWARD_SHARED, line, DIRECTORY, ownerCache).requester = reader;
            }
            sharerSet |= 1 << reader;
            busy = true;
        }

        private void processWrite(int writer) {
            int others = sharerSet & ~(1 << writer);
            if (ownerCache != NONE) {
                others &= ~(1 << ownerCache);
            }
            for (int i = 0; i < CACHES; i++) {
                if ((others >> i & 1) == 1) {
                    network.send(INVALIDATE, line, DIRECTORY, i).requester = writer;
                }
            }
            Message answer;
            if (ownerCache == NONE) {
                answer = network.send(DATA, line, DIRECTORY, writer);
                answer.carried = memoryValue;
            } else if (ownerCache == writer) {
                answer = network.send(GRANT, line, DIRECTORY, writer);
            } else {
                answer = network.send(FORWARD_MODIFIED, line, DIRECTORY, ownerCache);
                answer.requester = writer;
            }
            answer.count = Integer.bitCount(others);
            ownerCache = writer;
            sharerSet = 0;
            busy = true;
        }

        private void processPut(Message put) {
            if (ownerCache == put.sender) {
                memoryValue = put.carried;
                ownerCache = NONE;
                sharerSet &= ~(1 << put.sender);
                timelyPuts++;
            } else {
                latePuts++;
            }
            network.send(PUT_DONE, line, DIRECTORY, put.sender);
        }
    }
}
