import java.util.ArrayList;
import java.util.LinkedHashSet;
import java.util.List;
import java.util.Random;
import java.util.Set;

/**
 * Long runs of calls, the same ones each time, on the class and on a model that is held otherwise:
 * each channel has its own queue of tickets, one a case, and a woken routine takes all of its own out.
 */
public final class ChannelDeskAgainstModel {
    private static final int RUNS = 4000;
    /** What an object is used for, and what is left of it if all is looked at in the end. */
    private static final int CALLS = 512;
    private static final int CALLS_BEFORE_LOOKING = 512 - 48 - 4 - 5 * 45;
    private static final int MOST_CHANNELS_TO_LOOK_AT = 5;

    public static void main(String[] args) {
        for (int run = 0; run < RUNS; run++) {
            String fault = firstFault(run);
            if (fault != null) {
                System.out.println("run " + run + ": " + fault);
                System.exit(1);
            }
        }
        System.out.println("all " + RUNS + " runs answer as the model does");
    }

    private static String firstFault(int run) {
        Random random = new Random(run);
        ChannelDesk desk = new ChannelDesk();
        Model model = new Model();
        int channels = 1 + random.nextInt(run % 10 == 0 ? 45 : 5);
        int routines = 2 + random.nextInt(15);
        boolean looksInTheEnd = run % 2 == 1;
        int most = looksInTheEnd ? CALLS_BEFORE_LOOKING : CALLS;
        StringBuilder calls = new StringBuilder();
        for (int i = 0; i < most; i++) {
            int r = random.nextInt(60) == 0 ? wild(random) : random.nextInt(routines);
            int c = random.nextInt(60) == 0 ? wild(random) : random.nextInt(channels);
            int a = random.nextInt(40) == 0 ? wild(random) : random.nextInt(2);
            int b = random.nextInt(8) == 0 ? wild(random) : random.nextInt(12);
            int kind = i < channels ? 0 : 1 + random.nextInt(100);
            int[] answers = new int[2];
            calls.append(call(kind, r, c, a, b, desk, model, answers)).append(" = ").append(answers[0]).append('\n');
            if (answers[0] != answers[1]) {
                return calls + "due is " + answers[1];
            }
        }
        String odd = looksInTheEnd ? compareAll(desk, model) : null;
        return odd == null ? null : calls + odd;
    }

    private static int wild(Random random) {
        int[] wilds = {-1, -2, 2, 3, 6, 9, 15, 16, 39, 40, 41, Integer.MIN_VALUE, Integer.MAX_VALUE};
        return wilds[random.nextInt(wilds.length)];
    }

    private static String call(int kind, int r, int c, int a, int b, ChannelDesk x, Model m, int[] to) {
        if (kind <= 1) {
            int room = kind == 0 && b % 3 == 0 ? 0 : b;
            return tell(to, x.make(room), m.make(room), "make", room);
        }
        if (kind <= 19) {
            return tell(to, x.send(r, c, b), m.send(r, c, b), "send", r, c, b);
        }
        if (kind <= 37) {
            return tell(to, x.receive(r, c), m.receive(r, c), "receive", r, c);
        }
        if (kind <= 60) {
            return tell(to, x.add(r, c, a, b), m.add(r, c, a, b), "add", r, c, a, b);
        }
        if (kind <= 73) {
            return tell(to, x.choose(r, b, a == 1), m.choose(r, b, a == 1), "choose", r, b, a);
        }
        if (kind <= 74) {
            return tell(to, x.close(c), m.close(c), "close", c);
        }
        if (kind <= 79) {
            return tell(to, x.state(r), m.state(r), "state", r);
        }
        if (kind <= 82) {
            return tell(to, x.got(r), m.got(r), "got", r);
        }
        if (kind <= 86) {
            return tell(to, x.last(r), m.last(r), "last", r);
        }
        if (kind <= 91) {
            return tell(to, x.waiting(c, a, b % 4), m.waiting(c, a, b % 4), "waiting", c, a, b % 4);
        }
        if (kind <= 95) {
            return tell(to, x.channel(c, b), m.channel(c, b), "channel", c, b);
        }
        if (kind <= 99 || b != 7) {
            return tell(to, x.count(b % 5), m.count(b % 5), "count", b % 5);
        }
        return tell(to, x.clear(), m.clear(), "clear");
    }

    private static String tell(int[] to, int answer, int due, String name, int... with) {
        to[0] = answer;
        to[1] = due;
        StringBuilder text = new StringBuilder(name);
        for (int w : with) {
            text.append(' ').append(w);
        }
        return text.toString();
    }

    private static String compareAll(ChannelDesk x, Model m) {
        for (int r = 0; r < 16; r++) {
            if (x.state(r) != m.state(r) || x.got(r) != m.got(r) || x.last(r) != m.last(r)) {
                return "routine " + r + " is not as due at the end";
            }
        }
        for (int c = 0; c < MOST_CHANNELS_TO_LOOK_AT; c++) {
            for (int i = 0; i <= 16; i++) {
                if (i <= 10 && x.channel(c, i) != m.channel(c, i)
                        || x.waiting(c, 0, i) != m.waiting(c, 0, i)
                        || x.waiting(c, 1, i) != m.waiting(c, 1, i)) {
                    return "channel " + c + " is not as due at the end";
                }
            }
        }
        for (int what = 0; what < 4; what++) {
            if (x.count(what) != m.count(what)) {
                return "count " + what + " is not as due at the end";
            }
        }
        return null;
    }

    private static final class Ticket {
        final Routine owner;
        final Channel at;
        final int way;
        final int value;
        final int number;

        Ticket(Routine owner, Channel at, int way, int value, int number) {
            this.owner = owner;
            this.at = at;
            this.way = way;
            this.value = value;
            this.number = number;
        }
    }

    private static final class Routine {
        final int id;
        int state;
        int got;
        int sent;
        int chosen = -1;
        List<Ticket> cases = new ArrayList<>();
        List<Ticket> queued = new ArrayList<>();

        Routine(int id) {
            this.id = id;
        }

        boolean ready() {
            return state == 0 || state == 4;
        }

        void take(int value, int wasSent) {
            got = value;
            sent = wasSent;
        }
    }

    private static final class Channel {
        final int room;
        boolean closed;
        final List<Integer> values = new ArrayList<>();
        final List<Ticket> both = new ArrayList<>();

        Channel(int room) {
            this.room = room;
        }

        Ticket first(int way) {
            for (Ticket t : both) {
                if (t.way == way) {
                    return t;
                }
            }
            return null;
        }
    }

    private static final class Model {
        List<Routine> routines = new ArrayList<>();
        List<Channel> channels = new ArrayList<>();
        int meetings;
        int faults;

        Model() {
            clear();
        }

        int clear() {
            int before = channels.size();
            routines = new ArrayList<>();
            for (int i = 0; i < 16; i++) {
                routines.add(new Routine(i));
            }
            channels = new ArrayList<>();
            meetings = 0;
            faults = 0;
            return before;
        }

        Routine routine(int r) {
            return r >= 0 && r < 16 ? routines.get(r) : null;
        }

        Channel at(int c) {
            return c >= 0 && c < channels.size() ? channels.get(c) : null;
        }

        int make(int room) {
            if (room < 0 || room > 8 || channels.size() == 40) {
                return -1;
            }
            channels.add(new Channel(room));
            return channels.size() - 1;
        }

        int send(int r, int c, int value) {
            return alone(r, c, 0, value);
        }

        int receive(int r, int c) {
            return alone(r, c, 1, 0);
        }

        int alone(int r, int c, int way, int value) {
            Routine routine = routine(r);
            Channel channel = at(c);
            if (routine == null || channel == null || !routine.ready()) {
                return -1;
            }
            routine.cases.clear();
            routine.state = 0;
            Ticket ticket = new Ticket(routine, channel, way, value, -1);
            if (!possible(ticket)) {
                routine.state = way == 0 ? 1 : 2;
                queue(ticket);
                return 2;
            }
            perform(ticket);
            return routine.state == 4 ? 3 : 1;
        }

        boolean possible(Ticket t) {
            return t.at.closed || t.at.first(1 - t.way) != null
                    || (t.way == 0 ? t.at.values.size() < t.at.room : !t.at.values.isEmpty());
        }

        void perform(Ticket t) {
            Ticket other = t.at.first(1 - t.way);
            if (t.way == 0 && t.at.closed) {
                fault(t.owner);
            } else if (t.way == 0 && other != null) {
                wake(other);
                other.owner.take(t.value, 1);
                meetings++;
            } else if (t.way == 0) {
                t.at.values.add(t.value);
            } else {
                if (other != null) {
                    wake(other);
                    t.at.values.add(other.value);
                    meetings++;
                }
                boolean some = !t.at.values.isEmpty();
                t.owner.take(some ? t.at.values.remove(0) : 0, some ? 1 : 0);
            }
        }

        void queue(Ticket t) {
            t.at.both.add(t);
            t.owner.queued.add(t);
        }

        void wake(Ticket met) {
            Routine owner = met.owner;
            for (Ticket t : owner.queued) {
                t.at.both.remove(t);
            }
            owner.queued.clear();
            owner.state = 0;
            if (met.number >= 0) {
                owner.chosen = met.number;
            }
        }

        void fault(Routine routine) {
            routine.state = 4;
            faults++;
        }

        int add(int r, int c, int way, int value) {
            Routine routine = routine(r);
            if (routine == null || at(c) == null || !routine.ready() || way < 0 || way > 1
                    || routine.cases.size() == 6) {
                return -1;
            }
            routine.cases.add(new Ticket(routine, at(c), way, value, routine.cases.size()));
            return routine.cases.size();
        }

        int choose(int r, int seed, boolean hasDefault) {
            Routine routine = routine(r);
            if (routine == null || !routine.ready() || seed < 0) {
                return -1;
            }
            List<Ticket> cases = routine.cases;
            routine.cases = new ArrayList<>();
            routine.state = 0;
            List<Ticket> open = new ArrayList<>();
            for (Ticket t : cases) {
                if (possible(t)) {
                    open.add(t);
                }
            }
            if (!open.isEmpty()) {
                Ticket t = open.get(seed % open.size());
                routine.chosen = t.number;
                perform(t);
                return routine.state == 4 ? 12 : t.number;
            }
            if (hasDefault) {
                routine.chosen = 10;
                return 10;
            }
            routine.chosen = -1;
            routine.state = 3;
            for (Ticket t : cases) {
                queue(t);
            }
            return 11;
        }

        int close(int c) {
            Channel channel = at(c);
            if (channel == null) {
                return -1;
            }
            if (channel.closed) {
                return -2;
            }
            channel.closed = true;
            int woken = 0;
            while (!channel.both.isEmpty()) {
                Ticket t = channel.both.get(0);
                wake(t);
                woken++;
                if (t.way == 0) {
                    fault(t.owner);
                } else {
                    t.owner.take(0, 0);
                }
            }
            return woken;
        }

        int state(int r) {
            return routine(r) == null ? -1 : routine(r).state;
        }

        int got(int r) {
            return routine(r) == null ? 0 : routine(r).got;
        }

        int last(int r) {
            return routine(r) == null ? -1 : routine(r).sent + 2 * (routine(r).chosen + 2);
        }

        int waiting(int c, int way, int i) {
            Set<Integer> ids = new LinkedHashSet<>();
            if (at(c) != null) {
                for (Ticket t : at(c).both) {
                    if (t.way == way) {
                        ids.add(t.owner.id);
                    }
                }
            }
            return i >= 0 && i < ids.size() ? new ArrayList<>(ids).get(i) : -1;
        }

        int channel(int c, int what) {
            Channel channel = at(c);
            if (channel == null || what < 0 || what > 10) {
                return -1;
            }
            if (what < 3) {
                return what == 0 ? channel.values.size() : what == 1 ? channel.room : channel.closed ? 1 : 0;
            }
            return what - 3 < channel.values.size() ? channel.values.get(what - 3) : 0;
        }

        int count(int what) {
            int waits = 0;
            for (Routine routine : routines) {
                waits += routine.ready() ? 0 : 1;
            }
            switch (what) {
                case 0: return channels.size();
                case 1: return waits;
                case 2: return meetings;
                case 3: return faults;
                default: return -1;
            }
        }
    }
}
