import java.util.ArrayList;
import java.util.List;

/**
 * One method for each sentence by which a call is refused, or by which a question has no answer.
 * The call is made on one of two desks with the same past: afterwards all other calls must show the
 * same on both, what lies open to be seen as well as the cases that only a later choice shows.
 */
public final class ChannelDeskRefusals {
    private static final int LOW = Integer.MIN_VALUE;
    private static final int HIGH = Integer.MAX_VALUE;
    private static final int[] NO_ROUTINES = {-1, 16, 17, LOW, HIGH};
    private static final int[] NO_WAYS = {-1, 2, 3, LOW, HIGH};

    /** Of the busy desk: who waits to send (twice), to receive, in a choice, in one without cases. */
    private static final int[] NOT_READY = {0, 1, 2, 3, 4};
    /** Of the busy desk: behind a fault, with three cases, with six, with two behind a fault, as at first. */
    private static final int[] READY = {5, 6, 7, 8, 15};
    private static final int BUSY_CHANNELS = 6;
    private static final int[] NO_CHANNELS = {-1, BUSY_CHANNELS, 39, 40, LOW, HIGH};

    private static int wrong = 0;
    private static String sentence = "";

    private interface Past {
        ChannelDesk desk();
    }

    private interface Call {
        int on(ChannelDesk x);
    }

    public static void main(String[] args) {
        theBusyDeskIsAsTold();
        makeIsRefusedBelowRoom0();
        makeIsRefusedAboveRoom8();
        makeIsRefusedIfThereAre40();
        sendIsRefusedIfNotReady();
        sendIsRefusedWithoutSuchARoutine();
        sendIsRefusedWithoutSuchAChannel();
        receiveIsRefusedIfNotReady();
        receiveIsRefusedWithoutSuchARoutine();
        receiveIsRefusedWithoutSuchAChannel();
        addIsRefusedIfNotReady();
        addIsRefusedWithoutSuchARoutine();
        addIsRefusedWithoutSuchAChannel();
        addIsRefusedWithoutSuchAWay();
        addIsRefusedIfThereAreSix();
        chooseIsRefusedIfNotReady();
        chooseIsRefusedWithoutSuchARoutine();
        chooseIsRefusedIfSeedIsBelow0();
        closeIsRefusedWithoutSuchAChannel();
        closeAnswersMinus2IfClosedBefore();
        stateOfNoSuchRoutine();
        gotOfNoSuchRoutine();
        lastOfNoSuchRoutine();
        waitingIfThereIsNone();
        channelIfThereIsNoSuchOne();
        channelIfWhatIsNot0To10();
        countOfAnotherWhat();
        questionsChangeNothing();
        System.out.println(wrong == 0 ? "all answers are as due" : wrong + " answers are not as due");
        if (wrong != 0) {
            System.exit(1);
        }
    }

    // What the calls are made on.

    private static ChannelDesk newDesk() {
        return new ChannelDesk();
    }

    private static ChannelDesk fullDesk() {
        ChannelDesk x = new ChannelDesk();
        for (int c = 0; c < 40; c++) {
            x.make(c % 9);
        }
        x.send(15, 39, 5);
        x.receive(14, 39);
        x.receive(13, 39);
        x.send(12, 0, 6);
        return x;
    }

    /** Channels: 0 without room, 1 full, 2 with values, 3 closed, 4 closed with a value, 5 without room. */
    private static ChannelDesk busyDesk() {
        ChannelDesk x = new ChannelDesk();
        for (int room : new int[] {0, 2, 8, 0, 3, 0}) {
            x.make(room);
        }
        for (int r = 0; r <= 8; r++) {
            x.send(r, 2, 200 + r);
            x.receive(r, 2);
            x.choose(r, 0, true);
        }
        x.send(9, 1, 11);
        x.send(9, 1, 12);
        x.send(9, 2, 21);
        x.send(9, 2, 22);
        x.send(9, 4, 41);
        x.send(0, 0, 1);
        x.send(1, 1, 13);
        x.receive(2, 5);
        busyChoices(x);
        x.close(3);
        x.close(4);
        x.send(5, 3, 50);
        x.send(8, 3, 80);
        x.add(8, 2, 0, 81);
        x.add(8, 1, 1, 0);
        return x;
    }

    private static void busyChoices(ChannelDesk x) {
        x.add(3, 5, 1, 0);
        x.add(3, 0, 0, 31);
        x.add(3, 1, 0, 32);
        x.choose(3, 0, false);
        x.choose(4, 0, false);
        x.add(6, 2, 0, 61);
        x.add(6, 2, 1, 0);
        x.add(6, 5, 0, 62);
        x.add(7, 2, 0, 70);
        x.add(7, 2, 1, 71);
        x.add(7, 2, 0, 72);
        x.add(7, 4, 1, 73);
        x.add(7, 1, 1, 74);
        x.add(7, 2, 0, 75);
        x.receive(10, 2);
        x.add(11, 2, 1, 0);
        x.choose(11, 7, true);
        x.send(11, 2, 23);
        x.send(11, 2, 24);
        x.choose(12, 3, true);
    }

    private static void theBusyDeskIsAsTold() {
        sentence = "the busy desk";
        ChannelDesk x = busyDesk();
        int[] notReady = {1, 1, 2, 3, 3};
        int[] ready = {4, 0, 0, 4, 0};
        for (int i = 0; i < notReady.length; i++) {
            if (x.state(NOT_READY[i]) != notReady[i] || x.state(READY[i]) != ready[i]) {
                tell("routine " + NOT_READY[i] + " or " + READY[i] + " is not as told");
            }
        }
        int[] held = {0, 2, 2, 0, 1, 0};
        for (int c = 0; c < BUSY_CHANNELS; c++) {
            if (x.channel(c, 0) != held[c] || x.channel(c, 2) != (c == 3 || c == 4 ? 1 : 0)) {
                tell("channel " + c + " is not as told");
            }
        }
    }

    // How a desk is looked at: at most some 400 calls in all, of the 512 that an object is used for.

    private static List<String> show(ChannelDesk x) {
        List<String> shown = new ArrayList<>();
        for (int r = 0; r < 16; r++) {
            shown.add("state(" + r + ") is " + x.state(r));
            shown.add("got(" + r + ") is " + x.got(r));
            shown.add("last(" + r + ") is " + x.last(r));
        }
        for (int what = 0; what < 4; what++) {
            shown.add("count(" + what + ") is " + x.count(what));
        }
        int channels = x.count(0);
        for (int c = 0; c < channels; c++) {
            if (c < BUSY_CHANNELS || c == 39) {
                showChannel(x, c, shown);
            }
        }
        return shown;
    }

    private static void showChannel(ChannelDesk x, int c, List<String> shown) {
        for (int what = 0; what <= 10; what++) {
            shown.add("channel(" + c + ", " + what + ") is " + x.channel(c, what));
        }
        for (int way = 0; way < 2; way++) {
            int routine = 0;
            for (int i = 0; i <= 16 && routine != -1; i++) {
                routine = x.waiting(c, way, i);
                shown.add("waiting(" + c + ", " + way + ", " + i + ") is " + routine);
            }
        }
    }

    /**
     * All that a desk shows, and then what it answers if life goes on: so the cases come to light,
     * their number by one more add, and what each of them is by a choice without it.
     */
    private static List<String> showAndGoOn(ChannelDesk x, int seed, boolean adds) {
        List<String> shown = show(x);
        for (int r = 0; r < 16; r++) {
            if (adds) {
                shown.add("then add(" + r + ", 0, 1, 0) is " + x.add(r, 0, 1, 0));
            }
            shown.add("then choose(" + r + ", " + seed + ", true) is " + x.choose(r, seed, true));
        }
        for (String later : show(x)) {
            shown.add("later " + later);
        }
        shown.add("then make(4) is " + x.make(4));
        shown.add("then clear() is " + x.clear());
        return shown;
    }

    private static void answersAndChangesNothing(Past past, String name, Call call, int want) {
        String fault = null;
        for (int seed = 0; seed < 6 && fault == null; seed++) {
            fault = firstChange(past, call, want, seed, true);
            if (fault == null) {
                fault = firstChange(past, call, want, seed, false);
            }
        }
        if (fault != null) {
            tell(name + ": " + fault);
        }
    }

    private static String firstChange(Past past, Call call, int want, int seed, boolean adds) {
        ChannelDesk asked = past.desk();
        ChannelDesk twin = past.desk();
        int answer = call.on(asked);
        if (answer != want) {
            return "answered " + answer + ", due is " + want;
        }
        List<String> after = showAndGoOn(asked, seed, adds);
        List<String> due = showAndGoOn(twin, seed, adds);
        for (int i = 0; i < Math.max(after.size(), due.size()); i++) {
            String is = i < after.size() ? after.get(i) : "nothing";
            String was = i < due.size() ? due.get(i) : "nothing";
            if (!is.equals(was)) {
                return "behind it " + is + ", due is: " + was;
            }
        }
        return null;
    }

    private static void refused(Past past, String name, Call call) {
        answersAndChangesNothing(past, name, call, -1);
    }

    private static void tell(String what) {
        wrong++;
        System.out.println(sentence + ": " + what);
    }

    // Promise 2.

    private static void makeIsRefusedBelowRoom0() {
        sentence = "make: -1, refused, if room is not 0 .. (8)";
        for (int room : new int[] {-1, -2, -9, LOW}) {
            refusedMake(room);
        }
    }

    private static void makeIsRefusedAboveRoom8() {
        sentence = "make: -1, refused, if room is not (0) .. 8";
        for (int room : new int[] {9, 10, 40, HIGH}) {
            refusedMake(room);
        }
    }

    private static void refusedMake(int room) {
        refused(ChannelDeskRefusals::newDesk, "make(" + room + ")", x -> x.make(room));
        refused(ChannelDeskRefusals::busyDesk, "make(" + room + ")", x -> x.make(room));
    }

    private static void makeIsRefusedIfThereAre40() {
        sentence = "make: -1, refused, if there are 40";
        for (int room : new int[] {-1, 0, 1, 8, 9}) {
            refused(ChannelDeskRefusals::fullDesk, "make(" + room + ")", x -> x.make(room));
        }
    }

    // Promise 3.

    private static void sendIsRefusedIfNotReady() {
        sentence = "send: -1, refused, if it is not ready";
        for (int r : NOT_READY) {
            for (int c = 0; c < BUSY_CHANNELS; c++) {
                refusedSend(ChannelDeskRefusals::busyDesk, r, c);
            }
        }
    }

    private static void sendIsRefusedWithoutSuchARoutine() {
        sentence = "send: -1, refused, if there is no such routine";
        for (int r : NO_ROUTINES) {
            for (int c = 0; c < BUSY_CHANNELS; c++) {
                refusedSend(ChannelDeskRefusals::busyDesk, r, c);
            }
        }
    }

    private static void sendIsRefusedWithoutSuchAChannel() {
        sentence = "send: -1, refused, if there is no such channel";
        for (int r : READY) {
            for (int c : NO_CHANNELS) {
                refusedSend(ChannelDeskRefusals::busyDesk, r, c);
            }
            refusedSend(ChannelDeskRefusals::newDesk, r, 0);
        }
        refusedSend(ChannelDeskRefusals::fullDesk, 0, 40);
        refusedSend(ChannelDeskRefusals::busyDesk, 16, BUSY_CHANNELS);
    }

    private static void refusedSend(Past past, int r, int c) {
        refused(past, "send(" + r + ", " + c + ", 99)", x -> x.send(r, c, 99));
    }

    // Promise 4.

    private static void receiveIsRefusedIfNotReady() {
        sentence = "receive: -1, refused, if it is not ready";
        for (int r : NOT_READY) {
            for (int c = 0; c < BUSY_CHANNELS; c++) {
                refusedReceive(ChannelDeskRefusals::busyDesk, r, c);
            }
        }
    }

    private static void receiveIsRefusedWithoutSuchARoutine() {
        sentence = "receive: -1, refused, if there is no such routine";
        for (int r : NO_ROUTINES) {
            for (int c = 0; c < BUSY_CHANNELS; c++) {
                refusedReceive(ChannelDeskRefusals::busyDesk, r, c);
            }
        }
    }

    private static void receiveIsRefusedWithoutSuchAChannel() {
        sentence = "receive: -1, refused, if there is no such channel";
        for (int r : READY) {
            for (int c : NO_CHANNELS) {
                refusedReceive(ChannelDeskRefusals::busyDesk, r, c);
            }
            refusedReceive(ChannelDeskRefusals::newDesk, r, 0);
        }
        refusedReceive(ChannelDeskRefusals::fullDesk, 0, 40);
        refusedReceive(ChannelDeskRefusals::busyDesk, 16, BUSY_CHANNELS);
    }

    private static void refusedReceive(Past past, int r, int c) {
        refused(past, "receive(" + r + ", " + c + ")", x -> x.receive(r, c));
    }

    // Promise 5.

    private static void addIsRefusedIfNotReady() {
        sentence = "add: -1, refused, if it is not ready";
        for (int r : NOT_READY) {
            for (int c = 0; c < BUSY_CHANNELS; c++) {
                refusedAdd(ChannelDeskRefusals::busyDesk, r, c, 0);
                refusedAdd(ChannelDeskRefusals::busyDesk, r, c, 1);
            }
        }
    }

    private static void addIsRefusedWithoutSuchARoutine() {
        sentence = "add: -1, refused, if there is no such routine";
        for (int r : NO_ROUTINES) {
            refusedAdd(ChannelDeskRefusals::busyDesk, r, 2, 0);
            refusedAdd(ChannelDeskRefusals::busyDesk, r, 2, 1);
        }
    }

    private static void addIsRefusedWithoutSuchAChannel() {
        sentence = "add: -1, refused, if there is no such channel";
        for (int r : READY) {
            for (int c : NO_CHANNELS) {
                refusedAdd(ChannelDeskRefusals::busyDesk, r, c, 0);
                refusedAdd(ChannelDeskRefusals::busyDesk, r, c, 1);
            }
            refusedAdd(ChannelDeskRefusals::newDesk, r, 0, 1);
        }
        refusedAdd(ChannelDeskRefusals::fullDesk, 0, 40, 0);
    }

    private static void addIsRefusedWithoutSuchAWay() {
        sentence = "add: -1, refused, if there is no such way";
        for (int r : READY) {
            for (int way : NO_WAYS) {
                refusedAdd(ChannelDeskRefusals::busyDesk, r, 2, way);
                refusedAdd(ChannelDeskRefusals::busyDesk, r, 3, way);
            }
        }
    }

    private static void addIsRefusedIfThereAreSix() {
        sentence = "add: -1, refused, if there are six";
        for (int c = 0; c < BUSY_CHANNELS; c++) {
            refusedAdd(ChannelDeskRefusals::busyDesk, 7, c, 0);
            refusedAdd(ChannelDeskRefusals::busyDesk, 7, c, 1);
        }
    }

    private static void refusedAdd(Past past, int r, int c, int way) {
        refused(past, "add(" + r + ", " + c + ", " + way + ", 99)", x -> x.add(r, c, way, 99));
    }

    // Promise 6.

    private static void chooseIsRefusedIfNotReady() {
        sentence = "choose: -1, refused, if it is not ready";
        for (int r : NOT_READY) {
            refusedChoose(r, 0);
            refusedChoose(r, HIGH);
        }
    }

    private static void chooseIsRefusedWithoutSuchARoutine() {
        sentence = "choose: -1, refused, if there is no such routine";
        for (int r : NO_ROUTINES) {
            refusedChoose(r, 0);
            refusedChoose(r, 1);
        }
    }

    private static void chooseIsRefusedIfSeedIsBelow0() {
        sentence = "choose: -1, refused, if seed is below 0";
        for (int r : READY) {
            for (int seed : new int[] {-1, -2, -3, -6, LOW}) {
                refusedChoose(r, seed);
            }
        }
    }

    private static void refusedChoose(int r, int seed) {
        refused(ChannelDeskRefusals::busyDesk, "choose(" + r + ", " + seed + ", true)",
                x -> x.choose(r, seed, true));
        refused(ChannelDeskRefusals::busyDesk, "choose(" + r + ", " + seed + ", false)",
                x -> x.choose(r, seed, false));
    }

    // Promise 7.

    private static void closeIsRefusedWithoutSuchAChannel() {
        sentence = "close: -1, refused, if there is no such one";
        for (int c : NO_CHANNELS) {
            refused(ChannelDeskRefusals::busyDesk, "close(" + c + ")", x -> x.close(c));
        }
        refused(ChannelDeskRefusals::newDesk, "close(0)", x -> x.close(0));
        refused(ChannelDeskRefusals::fullDesk, "close(40)", x -> x.close(40));
    }

    private static void closeAnswersMinus2IfClosedBefore() {
        sentence = "close: -2 if it was closed before";
        for (int c : new int[] {3, 4}) {
            answersAndChangesNothing(ChannelDeskRefusals::busyDesk, "close(" + c + ")", x -> x.close(c), -2);
        }
    }

    // Promises 8 to 13: who asks of what is not there changes nothing either.

    private static void stateOfNoSuchRoutine() {
        sentence = "state: -1 if there is no such routine";
        for (int r : NO_ROUTINES) {
            refused(ChannelDeskRefusals::busyDesk, "state(" + r + ")", x -> x.state(r));
            refused(ChannelDeskRefusals::newDesk, "state(" + r + ")", x -> x.state(r));
        }
    }

    /** The document names no answer here; the shared runs have 0. */
    private static void gotOfNoSuchRoutine() {
        sentence = "got: 0 if there is no such routine";
        for (int r : NO_ROUTINES) {
            answersAndChangesNothing(ChannelDeskRefusals::busyDesk, "got(" + r + ")", x -> x.got(r), 0);
        }
    }

    private static void lastOfNoSuchRoutine() {
        sentence = "last: -1 if there is no such routine";
        for (int r : NO_ROUTINES) {
            refused(ChannelDeskRefusals::busyDesk, "last(" + r + ")", x -> x.last(r));
            refused(ChannelDeskRefusals::newDesk, "last(" + r + ")", x -> x.last(r));
        }
    }

    private static void waitingIfThereIsNone() {
        sentence = "waiting: -1 if there is none";
        for (int way = 0; way < 2; way++) {
            for (int c : NO_CHANNELS) {
                noneWaits(c, way, 0);
            }
            for (int i : new int[] {-1, -2, 3, 16, LOW, HIGH}) {
                noneWaits(0, way, i);
                noneWaits(5, way, i);
            }
            for (int c = 2; c <= 4; c++) {
                noneWaits(c, way, 0);
            }
        }
        for (int way : NO_WAYS) {
            noneWaits(0, way, 0);
            noneWaits(5, way, 0);
        }
        noneWaits(0, 0, 2);
        noneWaits(0, 1, 0);
        noneWaits(1, 0, 2);
        noneWaits(5, 1, 2);
        noneWaits(5, 0, 0);
    }

    private static void noneWaits(int c, int way, int i) {
        refused(ChannelDeskRefusals::busyDesk, "waiting(" + c + ", " + way + ", " + i + ")",
                x -> x.waiting(c, way, i));
    }

    private static void channelIfThereIsNoSuchOne() {
        sentence = "channel: -1 if there is no such one";
        for (int what = 0; what <= 10; what++) {
            for (int c : NO_CHANNELS) {
                noSuchChannel(ChannelDeskRefusals::busyDesk, c, what);
            }
            noSuchChannel(ChannelDeskRefusals::newDesk, 0, what);
            noSuchChannel(ChannelDeskRefusals::fullDesk, 40, what);
        }
    }

    private static void channelIfWhatIsNot0To10() {
        sentence = "channel: -1 if what is not 0 .. 10";
        for (int what : new int[] {-1, -2, 11, 12, LOW, LOW + 2, HIGH}) {
            for (int c = 0; c < BUSY_CHANNELS; c++) {
                noSuchChannel(ChannelDeskRefusals::busyDesk, c, what);
            }
        }
    }

    private static void noSuchChannel(Past past, int c, int what) {
        refused(past, "channel(" + c + ", " + what + ")", x -> x.channel(c, what));
    }

    private static void countOfAnotherWhat() {
        sentence = "count: -1 for another what";
        for (int what : new int[] {-1, -2, 4, 5, LOW, HIGH}) {
            refused(ChannelDeskRefusals::busyDesk, "count(" + what + ")", x -> x.count(what));
            refused(ChannelDeskRefusals::newDesk, "count(" + what + ")", x -> x.count(what));
        }
    }

    private static void questionsChangeNothing() {
        sentence = "a question changes nothing";
        answersAndChangesNothing(ChannelDeskRefusals::busyDesk, "state(8)", x -> x.state(8), 4);
        answersAndChangesNothing(ChannelDeskRefusals::busyDesk, "got(10)", x -> x.got(10), 21);
        answersAndChangesNothing(ChannelDeskRefusals::busyDesk, "last(11)", x -> x.last(11), 5);
        answersAndChangesNothing(ChannelDeskRefusals::busyDesk, "waiting(0, 0, 1)", x -> x.waiting(0, 0, 1), 3);
        answersAndChangesNothing(ChannelDeskRefusals::busyDesk, "channel(1, 4)", x -> x.channel(1, 4), 12);
        answersAndChangesNothing(ChannelDeskRefusals::busyDesk, "count(1)", x -> x.count(1), 5);
    }
}
