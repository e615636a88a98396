import java.util.Arrays;

/**
 * Routines meet at channels: they send, receive, close, choose among several meetings;
 * those who wait stand in the order in which they came.
 */
public final class ChannelDesk {
    private static final int ROUTINES = 16;
    private static final int CHANNELS = 40;
    private static final int MOST_ROOM = 8;
    private static final int MOST_CASES = 6;

    private static final int TO_SEND = 0;
    private static final int TO_RECEIVE = 1;
    private static final int EITHER_WAY = 2;

    private static final int READY = 0;
    private static final int WAITS_TO_SEND = 1;
    private static final int WAITS_TO_RECEIVE = 2;
    private static final int WAITS_IN_CHOICE = 3;
    private static final int READY_BEHIND_FAULT = 4;

    private static final int DONE = 1;
    private static final int WAITS = 2;
    private static final int FAULT = 3;

    private static final int DEFAULT_DONE = 10;
    private static final int CHOICE_WAITS = 11;
    private static final int CHOICE_FAULT = 12;

    private static final int SENT = 1;
    private static final int NOT_SENT = 0;

    private static final int REFUSED = -1;
    private static final int CLOSED_BEFORE = -2;
    private static final int NONE = -1;

    private final Channels channels;
    private final Cases cases;
    private final Line line;
    private final int[] status;
    private final int[] received;
    private final int[] wasSent;
    private final int[] caseDone;
    private int meetings;
    private int faults;

    public ChannelDesk() {
        channels = new Channels();
        cases = new Cases();
        line = new Line();
        status = new int[ROUTINES];
        received = new int[ROUTINES];
        wasSent = new int[ROUTINES];
        caseDone = new int[ROUTINES];
        startAfresh();
    }

    public int make(int room) {
        if (room < 0 || room > MOST_ROOM) {
            return REFUSED;
        }
        return channels.open(room);
    }

    public int send(int routine, int channel, int value) {
        if (!isReady(routine) || !channels.has(channel)) {
            return REFUSED;
        }
        makeReady(routine);
        int outcome = trySend(routine, channel, value);
        if (outcome == WAITS) {
            cases.append(routine, channel, TO_SEND, value);
            startWaiting(routine, WAITS_TO_SEND);
        }
        return outcome;
    }

    public int receive(int routine, int channel) {
        if (!isReady(routine) || !channels.has(channel)) {
            return REFUSED;
        }
        makeReady(routine);
        int outcome = tryReceive(routine, channel);
        if (outcome == WAITS) {
            cases.append(routine, channel, TO_RECEIVE, 0);
            startWaiting(routine, WAITS_TO_RECEIVE);
        }
        return outcome;
    }

    public int add(int routine, int channel, int way, int value) {
        if (!isReady(routine) || !channels.has(channel) || !isWay(way)) {
            return REFUSED;
        }
        return cases.append(routine, channel, way, value);
    }

    public int choose(int routine, int seed, boolean hasDefault) {
        if (!isReady(routine) || seed < 0) {
            return REFUSED;
        }
        int possible = countPossible(routine);
        if (possible > 0) {
            return doCase(routine, findPossible(routine, seed % possible));
        }
        if (hasDefault) {
            makeReady(routine);
            caseDone[routine] = DEFAULT_DONE;
            return DEFAULT_DONE;
        }
        caseDone[routine] = NONE;
        startWaiting(routine, WAITS_IN_CHOICE);
        return CHOICE_WAITS;
    }

    public int close(int channel) {
        if (!channels.has(channel)) {
            return REFUSED;
        }
        if (channels.isShut(channel)) {
            return CLOSED_BEFORE;
        }
        channels.shut(channel);
        int woken = 0;
        int slot = firstWaiting(channel, EITHER_WAY);
        while (slot != NONE && woken < ROUTINES) {
            wakeAtShutChannel(slot);
            woken++;
            slot = firstWaiting(channel, EITHER_WAY);
        }
        return woken;
    }

    public int state(int routine) {
        return isRoutine(routine) ? status[routine] : NONE;
    }

    public int got(int routine) {
        return isRoutine(routine) ? received[routine] : 0;
    }

    public int last(int routine) {
        return isRoutine(routine) ? wasSent[routine] + 2 * (caseDone[routine] + 2) : NONE;
    }

    public int waiting(int channel, int way, int i) {
        if (!channels.has(channel) || !isWay(way)) {
            return NONE;
        }
        int slot = findWaiting(channel, way, i);
        return slot == NONE ? NONE : Cases.routineAt(slot);
    }

    public int channel(int c, int what) {
        if (!channels.has(c)) {
            return NONE;
        }
        switch (what) {
            case 0:
                return channels.held(c);
            case 1:
                return channels.roomOf(c);
            case 2:
                return channels.isShut(c) ? 1 : 0;
            default:
                return what >= 3 && what < 3 + MOST_ROOM ? channels.valueAt(c, what - 3) : NONE;
        }
    }

    public int count(int what) {
        switch (what) {
            case 0:
                return channels.number();
            case 1:
                return line.length();
            case 2:
                return meetings;
            case 3:
                return faults;
            default:
                return NONE;
        }
    }

    public int clear() {
        int before = channels.number();
        startAfresh();
        return before;
    }

    private void startAfresh() {
        channels.forgetAll();
        cases.forgetAll();
        line.empty();
        Arrays.fill(status, READY);
        Arrays.fill(received, 0);
        Arrays.fill(wasSent, NOT_SENT);
        Arrays.fill(caseDone, NONE);
        meetings = 0;
        faults = 0;
    }

    private static boolean isRoutine(int routine) {
        return routine >= 0 && routine < ROUTINES;
    }

    private static boolean isWay(int way) {
        return way == TO_SEND || way == TO_RECEIVE;
    }

    private boolean isReady(int routine) {
        return isRoutine(routine)
                && (status[routine] == READY || status[routine] == READY_BEHIND_FAULT);
    }

    /** A deed, or the end of a wait: no older fault is told any more, and the cases are used up. */
    private void makeReady(int routine) {
        status[routine] = READY;
        cases.forget(routine);
    }

    private void startWaiting(int routine, int how) {
        status[routine] = how;
        line.join(routine);
    }

    private int trySend(int routine, int channel, int value) {
        if (channels.isShut(channel)) {
            sufferFault(routine);
            return FAULT;
        }
        int slot = firstWaiting(channel, TO_RECEIVE);
        if (slot != NONE) {
            meetings++;
            endWait(slot);
            hand(Cases.routineAt(slot), value, SENT);
            return DONE;
        }
        return channels.put(channel, value) ? DONE : WAITS;
    }

    private int tryReceive(int routine, int channel) {
        int slot = firstWaiting(channel, TO_SEND);
        if (channels.held(channel) > 0) {
            hand(routine, channels.takeFirst(channel), SENT);
            if (slot != NONE) {
                channels.put(channel, takeFromSender(slot));
            }
            return DONE;
        }
        if (slot != NONE) {
            hand(routine, takeFromSender(slot), SENT);
            return DONE;
        }
        if (channels.isShut(channel)) {
            hand(routine, 0, NOT_SENT);
            return DONE;
        }
        return WAITS;
    }

    private int takeFromSender(int slot) {
        int value = cases.valueAt(slot);
        meetings++;
        endWait(slot);
        return value;
    }

    private void hand(int routine, int value, int sent) {
        received[routine] = value;
        wasSent[routine] = sent;
    }

    private void sufferFault(int routine) {
        status[routine] = READY_BEHIND_FAULT;
        faults++;
    }

    /** A plain send or receive waits with one case too, but tells nothing of a choice. */
    private void endWait(int slot) {
        int routine = Cases.routineAt(slot);
        if (status[routine] == WAITS_IN_CHOICE) {
            caseDone[routine] = Cases.numberAt(slot);
        }
        line.leave(routine);
        makeReady(routine);
    }

    private void wakeAtShutChannel(int slot) {
        int routine = Cases.routineAt(slot);
        int way = cases.wayAt(slot);
        endWait(slot);
        if (way == TO_SEND) {
            sufferFault(routine);
        } else {
            hand(routine, 0, NOT_SENT);
        }
    }

    private int doCase(int routine, int slot) {
        if (slot == NONE) {
            return REFUSED;
        }
        int channel = cases.channelAt(slot);
        int way = cases.wayAt(slot);
        int value = cases.valueAt(slot);
        makeReady(routine);
        caseDone[routine] = Cases.numberAt(slot);
        int outcome = way == TO_SEND
                ? trySend(routine, channel, value)
                : tryReceive(routine, channel);
        return outcome == FAULT ? CHOICE_FAULT : Cases.numberAt(slot);
    }

    private int countPossible(int routine) {
        int possible = 0;
        for (int i = 0; i < cases.numberOf(routine); i++) {
            if (isPossible(Cases.slotOf(routine, i))) {
                possible++;
            }
        }
        return possible;
    }

    private int findPossible(int routine, int n) {
        int before = 0;
        for (int i = 0; i < cases.numberOf(routine); i++) {
            int slot = Cases.slotOf(routine, i);
            if (isPossible(slot)) {
                if (before == n) {
                    return slot;
                }
                before++;
            }
        }
        return NONE;
    }

    /** The choosing routine is not in the line yet, so it can't be found as its own partner. */
    private boolean isPossible(int slot) {
        int channel = cases.channelAt(slot);
        if (channels.isShut(channel)) {
            return true;
        }
        if (cases.wayAt(slot) == TO_SEND) {
            return channels.hasSpace(channel) || firstWaiting(channel, TO_RECEIVE) != NONE;
        }
        return channels.held(channel) > 0 || firstWaiting(channel, TO_SEND) != NONE;
    }

    private int firstWaiting(int channel, int way) {
        return findWaiting(channel, way, 0);
    }

    /** The slot of the case with which the n-th routine waits there, or NONE. */
    private int findWaiting(int channel, int way, int n) {
        int before = 0;
        for (int i = 0; i < line.length(); i++) {
            int slot = cases.firstAt(line.memberAt(i), channel, way);
            if (slot != NONE) {
                if (before == n) {
                    return slot;
                }
                before++;
            }
        }
        return NONE;
    }

    /** The channels that have been made, and the values that lie in them, the first one in front. */
    private static final class Channels {
        private final int[] room = new int[CHANNELS];
        private final int[] held = new int[CHANNELS];
        private final boolean[] shut = new boolean[CHANNELS];
        private final int[] values = new int[CHANNELS * MOST_ROOM];
        private int number;

        void forgetAll() {
            number = 0;
        }

        int number() {
            return number;
        }

        boolean has(int channel) {
            return channel >= 0 && channel < number;
        }

        int open(int newRoom) {
            if (number >= CHANNELS) {
                return REFUSED;
            }
            int channel = number;
            room[channel] = newRoom;
            held[channel] = 0;
            shut[channel] = false;
            number++;
            return channel;
        }

        void shut(int channel) {
            shut[channel] = true;
        }

        boolean isShut(int channel) {
            return shut[channel];
        }

        int roomOf(int channel) {
            return room[channel];
        }

        int held(int channel) {
            return held[channel];
        }

        boolean hasSpace(int channel) {
            return held[channel] < room[channel];
        }

        int valueAt(int channel, int i) {
            return i < held[channel] ? values[channel * MOST_ROOM + i] : 0;
        }

        boolean put(int channel, int value) {
            if (!hasSpace(channel)) {
                return false;
            }
            values[channel * MOST_ROOM + held[channel]] = value;
            held[channel]++;
            return true;
        }

        int takeFirst(int channel) {
            if (held[channel] <= 0) {
                return 0;
            }
            int front = channel * MOST_ROOM;
            int value = values[front];
            held[channel]--;
            System.arraycopy(values, front + 1, values, front, held[channel]);
            return value;
        }
    }

    /**
     * The cases of all routines. A slot is a routine and the number of one of its cases in one int,
     * so that a search can answer both.
     */
    private static final class Cases {
        private final int[] number = new int[ROUTINES];
        private final int[] channels = new int[ROUTINES * MOST_CASES];
        private final int[] ways = new int[ROUTINES * MOST_CASES];
        private final int[] values = new int[ROUTINES * MOST_CASES];

        static int slotOf(int routine, int i) {
            return routine * MOST_CASES + i;
        }

        static int routineAt(int slot) {
            return slot / MOST_CASES;
        }

        static int numberAt(int slot) {
            return slot % MOST_CASES;
        }

        void forgetAll() {
            Arrays.fill(number, 0);
        }

        void forget(int routine) {
            number[routine] = 0;
        }

        int numberOf(int routine) {
            return number[routine];
        }

        int append(int routine, int channel, int way, int value) {
            if (number[routine] >= MOST_CASES) {
                return REFUSED;
            }
            int slot = slotOf(routine, number[routine]);
            channels[slot] = channel;
            ways[slot] = way;
            values[slot] = value;
            number[routine]++;
            return number[routine];
        }

        int channelAt(int slot) {
            return channels[slot];
        }

        int wayAt(int slot) {
            return ways[slot];
        }

        int valueAt(int slot) {
            return values[slot];
        }

        int firstAt(int routine, int channel, int way) {
            for (int i = 0; i < number[routine]; i++) {
                int slot = slotOf(routine, i);
                if (channels[slot] == channel && (way == EITHER_WAY || ways[slot] == way)) {
                    return slot;
                }
            }
            return NONE;
        }
    }

    /**
     * All routines that wait, in the order in which they began. One line serves every channel:
     * who waits at a channel stands there in the same order as here.
     */
    private static final class Line {
        private final int[] members = new int[ROUTINES];
        private int length;

        void empty() {
            length = 0;
        }

        int length() {
            return length;
        }

        int memberAt(int i) {
            return members[i];
        }

        void join(int routine) {
            if (length < ROUTINES) {
                members[length] = routine;
                length++;
            }
        }

        void leave(int routine) {
            int kept = 0;
            for (int i = 0; i < length; i++) {
                if (members[i] != routine) {
                    members[kept] = members[i];
                    kept++;
                }
            }
            length = kept;
        }
    }
}
