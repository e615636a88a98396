/**
 * One method for each sentence of the document that names a boundary: too small, too large, empty,
 * full, the first and the last of a row, a wrap-around. What is refused has its own tests in
 * ChannelDeskRefusals.
 */
public final class ChannelDeskBoundaries {
    private static final int LOW = Integer.MIN_VALUE;
    private static final int HIGH = Integer.MAX_VALUE;
    private static final int[] VALUES = {LOW, LOW + 1, -1, 0, 1, HIGH};

    private static int wrong = 0;
    private static String sentence = "";

    public static void main(String[] args) {
        terms();
        sending();
        receiving();
        choosing();
        closing();
        faultsAndOrder();
        promises1To6();
        promises7To14();
        System.out.println(wrong == 0 ? "all answers are as due" : wrong + " answers are not as due");
        if (wrong != 0) {
            System.exit(1);
        }
    }

    private static void due(String what, int answer, int want) {
        if (answer != want) {
            wrong++;
            System.out.println(sentence + ": " + what + " is " + answer + ", due is " + want);
        }
    }

    private static ChannelDesk deskWith(int... rooms) {
        ChannelDesk x = new ChannelDesk();
        for (int room : rooms) {
            x.make(room);
        }
        return x;
    }

    private static void fill(ChannelDesk x, int routine, int c, int howMany) {
        for (int i = 0; i < howMany; i++) {
            due("a send with room left", x.send(routine, c, 100 + i), 1);
        }
    }

    private static int last(int sent, int number) {
        return sent + 2 * (number + 2);
    }

    // Terms: the sizes.

    private static void terms() {
        all512CallsAreAnswered();
        routines0And15();
        channels0To39();
        roomFor0To8Values();
        valuesAreInts();
        valuesWrapAroundInTheirRoom();
    }

    private static void all512CallsAreAnswered() {
        sentence = "an object is used for at most 512 calls";
        ChannelDesk x = deskWith(8);
        for (int i = 0; i < 255; i++) {
            due("send", x.send(0, 0, i), 1);
            due("receive", x.receive(1, 0), 1);
        }
        due("the 512th call", x.got(1), 254);
    }

    private static void routines0And15() {
        sentence = "there are routines 0 .. 15";
        for (int r : new int[] {0, 15}) {
            ChannelDesk x = deskWith(1, 0);
            due("state", x.state(r), 0);
            due("send", x.send(r, 0, 5), 1);
            due("receive", x.receive(r, 0), 1);
            due("got", x.got(r), 5);
            due("add", x.add(r, 1, 1, 0), 1);
            due("choose", x.choose(r, 0, false), 11);
            due("waiting", x.waiting(1, 1, 0), r);
            due("another meets it", x.send(7, 1, 6), 1);
            due("last", x.last(r), last(1, 0));
            due("got then", x.got(r), 6);
        }
    }

    private static void channels0To39() {
        sentence = "channels 0, 1, .. (at most 40)";
        ChannelDesk x = new ChannelDesk();
        for (int c = 0; c < 40; c++) {
            due("make", x.make(1), c);
        }
        for (int c : new int[] {0, 1, 38, 39}) {
            due("send", x.send(0, c, 10 + c), 1);
            due("the value", x.channel(c, 3), 10 + c);
            due("receive", x.receive(1, c), 1);
            due("got", x.got(1), 10 + c);
            due("add", x.add(2, c, 0, 50 + c), 1);
            due("choose", x.choose(2, 0, true), 0);
            due("the case's value", x.channel(c, 3), 50 + c);
            due("the next send", x.send(3, c, 1), 2);
            due("waiting", x.waiting(c, 0, 0), 3);
            due("close", x.close(c), 1);
            due("closed", x.channel(c, 2), 1);
        }
        due("one between is open", x.channel(20, 2), 0);
        due("one between is empty", x.channel(20, 0), 0);
    }

    private static void roomFor0To8Values() {
        sentence = "each with room for 0 .. 8 values";
        for (int room = 0; room <= 8; room++) {
            ChannelDesk x = deskWith(8, room, 8);
            fill(x, 0, 1, room);
            due("one more", x.send(0, 1, 99), 2);
            due("values", x.channel(1, 0), room);
            for (int i = 0; i < 8; i++) {
                due("value " + i, x.channel(1, 3 + i), i < room ? 100 + i : 0);
                due("value beside " + i, x.channel(0, 3 + i) + x.channel(2, 3 + i), 0);
            }
        }
    }

    private static void valuesAreInts() {
        sentence = "values (ints)";
        for (int value : VALUES) {
            ChannelDesk x = deskWith(1, 0);
            x.send(0, 0, value);
            due("in its room", x.channel(0, 3), value);
            x.receive(1, 0);
            due("through a room", x.got(1), value);
            x.receive(2, 1);
            x.send(0, 1, value);
            due("to one who waits", x.got(2), value);
            x.send(0, 1, value);
            x.receive(3, 1);
            due("from one who waits", x.got(3), value);
            x.add(4, 1, 0, value);
            x.choose(4, 0, false);
            x.receive(5, 1);
            due("from a choice that waits", x.got(5), value);
            x.receive(6, 1);
            x.add(4, 1, 0, value);
            x.choose(4, HIGH, false);
            due("from a choice that is done", x.got(6), value);
        }
    }

    private static void valuesWrapAroundInTheirRoom() {
        sentence = "the first value leaves, the next comes behind the others";
        for (int room = 1; room <= 8; room++) {
            ChannelDesk x = deskWith(8, room, 8);
            fill(x, 0, 1, room);
            for (int i = 0; i < 30; i++) {
                due("receive", x.receive(1, 1), 1);
                due("got", x.got(1), 100 + i);
                due("send", x.send(0, 1, 100 + room + i), 1);
                due("the first now", x.channel(1, 3), 101 + i);
                due("the last now", x.channel(1, 2 + room), 100 + room + i);
            }
            due("values", x.channel(1, 0), room);
            due("values beside", x.channel(0, 0) + x.channel(2, 0), 0);
        }
    }

    // Terms: SEND.

    private static void sending() {
        aSendAtAClosedChannelIsAFault();
        aSendGoesToTheFirstReceiver();
        aSendGoesToAReceiverBeforeTheRoom();
        aSendWaitsIfFull();
    }

    private static void aSendAtAClosedChannelIsAFault() {
        sentence = "send: if the channel is closed: fault";
        for (int held = 0; held <= 2; held++) {
            ChannelDesk x = deskWith(2, 0);
            fill(x, 0, 0, held);
            x.close(0);
            x.close(1);
            due("with room for 2", x.send(1, 0, 7), 3);
            due("its state", x.state(1), 4);
            due("values as before", x.channel(0, 0), held);
            due("no value behind them", x.channel(0, 3 + held), 0);
            due("without room", x.send(2, 1, 7), 3);
            due("its state then", x.state(2), 4);
            due("faults", x.count(3), 2);
            due("none waits", x.count(1), 0);
        }
    }

    private static void aSendGoesToTheFirstReceiver() {
        sentence = "send: if a receiver waits there, the first one gets it";
        ChannelDesk x = deskWith(0, 0);
        x.receive(9, 1);
        for (int r : new int[] {5, 2, 8}) {
            x.receive(r, 0);
        }
        for (int r : new int[] {5, 2, 8}) {
            due("send", x.send(0, 0, 10 + r), 1);
            due("the first is ready", x.state(r), 0);
            due("it has it", x.got(r), 10 + r);
            due("it was sent", x.last(r), last(1, -1));
        }
        due("one more waits itself", x.send(0, 0, 1), 2);
        due("one at another channel waits on", x.state(9), 2);
        due("meetings", x.count(2), 3);
    }

    private static void aSendGoesToAReceiverBeforeTheRoom() {
        sentence = "send: a receiver that waits, else the room";
        for (int room = 1; room <= 8; room++) {
            ChannelDesk x = deskWith(room);
            x.receive(1, 0);
            due("send", x.send(0, 0, 6), 1);
            due("nothing is in the room", x.channel(0, 0), 0);
            due("the receiver has it", x.got(1), 6);
            due("a meeting", x.count(2), 1);
            due("the next send", x.send(0, 0, 7), 1);
            due("is in the room", x.channel(0, 3), 7);
            due("which is no meeting", x.count(2), 1);
        }
    }

    private static void aSendWaitsIfFull() {
        sentence = "send: else the routine waits";
        for (int room = 0; room <= 8; room++) {
            ChannelDesk x = deskWith(room);
            fill(x, 0, 0, room);
            due("the first too many", x.send(1, 0, 8), 2);
            due("its state", x.state(1), 1);
            due("the second too many", x.send(2, 0, 9), 2);
            due("first in order", x.waiting(0, 0, 0), 1);
            due("second in order", x.waiting(0, 0, 1), 2);
            due("values", x.channel(0, 0), room);
            due("no meeting", x.count(2), 0);
            due("no fault", x.count(3), 0);
        }
    }

    // Terms: RECEIVE.

    private static void receiving() {
        aReceiveFromAFullRoomLetsTheFirstSenderIn();
        aReceiveWithoutWaitingSendersLeavesAGap();
        aReceiveWithoutRoomTakesTheFirstSendersValue();
        aReceiveAtAClosedChannelTakesValuesFirst();
        aReceiveAtAnEmptyClosedChannelGets0();
        aReceiveAtAnEmptyOpenChannelWaits();
        aZeroThatWasSentIsSent();
    }

    private static void aReceiveFromAFullRoomLetsTheFirstSenderIn() {
        sentence = "receive: the first leaves, and the first sender's value comes behind the others";
        for (int room = 1; room <= 8; room++) {
            ChannelDesk x = deskWith(room);
            fill(x, 0, 0, room);
            x.send(1, 0, 100 + room);
            x.send(2, 0, 101 + room);
            due("receive", x.receive(3, 0), 1);
            due("got", x.got(3), 100);
            due("still full", x.channel(0, 0), room);
            due("the last value", x.channel(0, 2 + room), 100 + room);
            due("the first sender is through", x.state(1), 0);
            due("the second waits on", x.state(2), 1);
            due("it is the first now", x.waiting(0, 0, 0), 2);
            due("one meeting", x.count(2), 1);
            for (int i = 1; i <= room + 1; i++) {
                due("receive the others", x.receive(3, 0), 1);
                due("in their order", x.got(3), 100 + i);
            }
            due("empty", x.channel(0, 0), 0);
            due("two meetings", x.count(2), 2);
        }
    }

    private static void aReceiveWithoutWaitingSendersLeavesAGap() {
        sentence = "receive: if there are values, the first one leaves";
        ChannelDesk x = deskWith(8);
        fill(x, 0, 0, 8);
        for (int left = 7; left >= 0; left--) {
            due("receive", x.receive(1, 0), 1);
            due("got", x.got(1), 107 - left);
            due("left", x.channel(0, 0), left);
            due("behind the last", x.channel(0, 3 + left), 0);
        }
        due("no meeting", x.count(2), 0);
        due("nothing is left", x.receive(1, 0), 2);
    }

    private static void aReceiveWithoutRoomTakesTheFirstSendersValue() {
        sentence = "receive: none, but a sender waits: its value (the first sender's)";
        ChannelDesk x = deskWith(0);
        for (int r : new int[] {12, 3, 7}) {
            x.send(r, 0, 20 + r);
        }
        for (int r : new int[] {12, 3, 7}) {
            due("receive", x.receive(1, 0), 1);
            due("got", x.got(1), 20 + r);
            due("sent", x.last(1), last(1, -1));
            due("it is through", x.state(r), 0);
        }
        due("nothing is left", x.receive(1, 0), 2);
        due("meetings", x.count(2), 3);
    }

    private static void aReceiveAtAClosedChannelTakesValuesFirst() {
        sentence = "receive: values before closed";
        ChannelDesk x = deskWith(8);
        fill(x, 0, 0, 8);
        x.close(0);
        for (int i = 0; i < 8; i++) {
            due("receive", x.receive(1, 0), 1);
            due("got", x.got(1), 100 + i);
            due("sent", x.last(1), last(1, -1));
        }
        due("then", x.receive(1, 0), 1);
        due("not sent", x.last(1), last(0, -1));
    }

    private static void aReceiveAtAnEmptyClosedChannelGets0() {
        sentence = "receive: if the channel is closed, 0, not sent";
        for (int room = 0; room <= 8; room += 8) {
            ChannelDesk x = deskWith(room, 1);
            x.send(0, 1, 77);
            x.receive(1, 1);
            x.close(0);
            due("receive", x.receive(1, 0), 1);
            due("got", x.got(1), 0);
            due("not sent", x.last(1), last(0, -1));
            due("ready", x.state(1), 0);
            due("again", x.receive(1, 0), 1);
            due("no fault", x.count(3), 0);
            due("no meeting", x.count(2), 0);
        }
    }

    private static void aReceiveAtAnEmptyOpenChannelWaits() {
        sentence = "receive: else the routine waits";
        for (int room = 0; room <= 8; room++) {
            ChannelDesk x = deskWith(room);
            due("the first", x.receive(4, 0), 2);
            due("its state", x.state(4), 2);
            due("the second", x.receive(1, 0), 2);
            due("first in order", x.waiting(0, 1, 0), 4);
            due("second in order", x.waiting(0, 1, 1), 1);
        }
    }

    private static void aZeroThatWasSentIsSent() {
        sentence = "0, not sent, is not a 0 that was sent";
        ChannelDesk x = deskWith(1, 0);
        x.send(0, 0, 0);
        x.receive(1, 0);
        due("through a room", x.last(1), last(1, -1));
        x.receive(2, 1);
        x.send(0, 1, 0);
        due("to one who waits", x.last(2), last(1, -1));
        x.send(0, 1, 0);
        x.receive(3, 1);
        due("from one who waits", x.last(3), last(1, -1));
        x.receive(4, 1);
        x.close(1);
        due("not sent", x.last(4), last(0, -1));
    }

    // Terms: A CHOICE.

    private static void choosing() {
        seedModuloHowManyArePossible();
        atAClosedChannelBothArePossible();
        whatWouldWaitIsNotPossible();
        withADefaultNothing();
        aPossibleCaseGoesBeforeTheDefault();
        noCasesAtAll();
        itWaitsAtAllOfThem();
        theFirstCaseThatIsAsAskedIsDone();
        aRoutineDoesNotMeetItself();
        aChoiceLetsItsValueIn();
    }

    /** Bit i of the mask says whether case i is possible. */
    private static void seedModuloHowManyArePossible() {
        sentence = "choice: of the possible ones that with the number seed modulo how many";
        for (int mask = 1; mask < 64; mask++) {
            int many = Integer.bitCount(mask);
            for (int seed : new int[] {0, 1, many - 1, many, many + 1, 2 * many, 1000, HIGH - 1, HIGH}) {
                ChannelDesk x = deskWith(1, 0);
                for (int i = 0; i < 6; i++) {
                    x.add(0, (mask >> i & 1) == 1 ? 0 : 1, 0, 50 + i);
                }
                int number = nthBit(mask, seed % many);
                due("choose with mask " + mask + ", seed " + seed, x.choose(0, seed, false), number);
                due("its value", x.channel(0, 3), 50 + number);
                due("last", x.last(0), last(0, number));
                due("only one is done", x.channel(0, 0), 1);
            }
        }
    }

    private static int nthBit(int mask, int n) {
        int left = mask;
        for (int i = 0; i < n; i++) {
            left &= left - 1;
        }
        return Integer.numberOfTrailingZeros(left);
    }

    private static void atAClosedChannelBothArePossible() {
        sentence = "choice: at a closed channel both are possible";
        for (int room = 0; room <= 2; room += 2) {
            for (int way = 0; way < 2; way++) {
                ChannelDesk x = deskWith(room, 0);
                x.close(0);
                x.add(0, 1, way, 5);
                x.add(0, 0, way, 5);
                due("way " + way, x.choose(0, 0, true), way == 0 ? 12 : 1);
                due("last", x.last(0), last(0, 1));
                due("nothing came in", x.channel(0, 0), 0);
            }
        }
        ChannelDesk x = deskWith(1);
        fill(x, 0, 0, 1);
        x.close(0);
        x.add(0, 0, 0, 5);
        due("to send at a full one", x.choose(0, 0, true), 12);
        x.add(0, 0, 1, 5);
        due("to receive a value", x.choose(0, 0, true), 0);
        due("got", x.got(0), 100);
    }

    private static void whatWouldWaitIsNotPossible() {
        sentence = "choice: a case is possible if it would not wait";
        ChannelDesk x = deskWith(0, 0, 2, 2, 2);
        x.send(1, 0, 1);
        x.receive(2, 1);
        fill(x, 3, 3, 2);
        x.send(3, 3, 9);
        x.receive(4, 2);
        x.add(0, 0, 0, 6);
        x.add(0, 1, 1, 0);
        x.add(0, 2, 1, 0);
        x.add(0, 3, 0, 7);
        x.add(0, 4, 1, 0);
        due("none of five", x.choose(0, 0, true), 10);
        x.add(0, 0, 1, 0);
        due("to receive where a sender waits", x.choose(0, 0, true), 0);
        x.add(0, 1, 0, 8);
        due("to send where a receiver waits", x.choose(0, 0, true), 0);
        x.add(0, 2, 0, 8);
        due("to send where one waits for the first value", x.choose(0, 0, true), 0);
        x.add(0, 3, 1, 8);
        due("to receive a value", x.choose(0, 0, true), 0);
        x.add(0, 4, 0, 8);
        due("to send into an empty room", x.choose(0, 0, true), 0);
        x.add(0, 4, 0, 8);
        due("to send into the last place", x.choose(0, 0, true), 0);
        x.add(0, 4, 0, 8);
        due("to send into no place", x.choose(0, 0, true), 10);
    }

    private static void withADefaultNothing() {
        sentence = "choice: else, if there is a default, nothing";
        ChannelDesk x = deskWith(0, 1);
        x.send(1, 0, 5);
        for (int seed : new int[] {0, 1, HIGH}) {
            x.add(0, 0, 0, 6);
            x.add(0, 1, 1, 0);
            due("choose", x.choose(0, seed, true), 10);
            due("ready", x.state(0), 0);
            due("only the sender waits", x.count(1), 1);
            due("it waits as before", x.waiting(0, 0, 0), 1);
            due("nobody else there", x.waiting(0, 0, 1), -1);
            due("nobody here", x.waiting(1, 1, 0), -1);
            due("nothing came in", x.channel(1, 0), 0);
            due("got", x.got(0), 0);
            due("last", x.last(0), last(0, 10));
            due("the cases are gone", x.add(0, 0, 0, 6), 1);
            x.choose(0, 0, true);
        }
        due("no meeting", x.count(2), 0);
    }

    private static void aPossibleCaseGoesBeforeTheDefault() {
        sentence = "choice: if some are possible, one of them is done, else the default";
        ChannelDesk x = deskWith(0, 1);
        for (int i = 0; i < 5; i++) {
            x.add(0, 0, 1, 0);
        }
        x.add(0, 1, 0, 4);
        due("the sixth alone", x.choose(0, HIGH, true), 5);
        due("its value", x.channel(1, 3), 4);
    }

    private static void noCasesAtAll() {
        sentence = "choice: up to 6 cases, none among them";
        ChannelDesk x = deskWith(0, 1);
        due("with a default", x.choose(0, 0, true), 10);
        due("ready", x.state(0), 0);
        due("without one", x.choose(0, HIGH, false), 11);
        due("it waits", x.state(0), 3);
        due("it is counted", x.count(1), 1);
        due("last", x.last(0), last(0, -1));
        for (int c = 0; c < 2; c++) {
            due("not to send", x.waiting(c, 0, 0), -1);
            due("not to receive", x.waiting(c, 1, 0), -1);
            due("a close does not wake it", x.close(c), 0);
        }
        due("it waits on", x.state(0), 3);
        x.clear();
        due("until all is as at first", x.state(0), 0);
    }

    private static void itWaitsAtAllOfThem() {
        sentence = "choice: it waits at all; the first that is met is done, and it waits at none any more";
        for (int met = 0; met < 6; met++) {
            ChannelDesk x = deskWith(0, 0, 0, 0, 0, 0);
            for (int c = 0; c < 6; c++) {
                due("add", x.add(9, c, c % 2, 60 + c), c + 1);
            }
            due("choose", x.choose(9, met, false), 11);
            for (int c = 0; c < 6; c++) {
                due("it waits at " + c, x.waiting(c, c % 2, 0), 9);
                due("not the other way", x.waiting(c, 1 - c % 2, 0), -1);
            }
            due("as one", x.count(1), 1);
            due("it is met", met % 2 == 0 ? x.receive(1, met) : x.send(1, met, 30), 1);
            due("last", x.last(9), last(met % 2, met));
            due("got", x.got(met % 2 == 0 ? 1 : 9), met % 2 == 0 ? 60 + met : 30);
            due("ready", x.state(9), 0);
            for (int c = 0; c < 6; c++) {
                due("it has left " + c, x.waiting(c, c % 2, 0), -1);
                due("none to wake there", x.close(c), 0);
            }
            due("the case stays", x.last(9), last(met % 2, met));
            due("its cases are gone", x.add(9, 0, 0, 0), 1);
        }
    }

    private static void theFirstCaseThatIsAsAskedIsDone() {
        sentence = "choice: at one channel the first of its cases that is to send, or to receive, as asked";
        for (int asked = 0; asked < 2; asked++) {
            for (int mask = 1; mask < 63; mask++) {
                ChannelDesk x = deskWith(0);
                for (int i = 0; i < 6; i++) {
                    x.add(0, 0, mask >> i & 1, 40 + i);
                }
                x.choose(0, 0, false);
                due("it stands once", x.waiting(0, asked, 0), 0);
                due("and not again", x.waiting(0, asked, 1), -1);
                int first = Integer.numberOfTrailingZeros(asked == 1 ? mask : ~mask);
                due("it is met", asked == 0 ? x.receive(1, 0) : x.send(1, 0, 8), 1);
                due("last with mask " + mask, x.last(0), last(asked, first));
                due("the value", asked == 0 ? x.got(1) : x.got(0), asked == 0 ? 40 + first : 8);
            }
        }
    }

    private static void aRoutineDoesNotMeetItself() {
        sentence = "choice: a routine does not meet itself";
        ChannelDesk x = deskWith(0);
        x.add(0, 0, 0, 1);
        x.add(0, 0, 1, 0);
        due("with a default", x.choose(0, 0, true), 10);
        x.add(0, 0, 0, 1);
        x.add(0, 0, 1, 0);
        due("without one", x.choose(0, 1, false), 11);
        due("no meeting", x.count(2), 0);
        x.add(1, 0, 1, 0);
        x.add(1, 0, 0, 2);
        due("another meets it, both are possible", x.choose(1, 3, false), 1);
        due("the one who waited has received", x.got(0), 2);
        due("with its case", x.last(0), last(1, 1));
        due("one meeting", x.count(2), 1);
        due("nobody waits", x.count(1), 0);
    }

    private static void aChoiceLetsItsValueIn() {
        sentence = "receive: the first sender's value comes in, a choice's too";
        ChannelDesk x = deskWith(8, 0);
        fill(x, 0, 0, 8);
        x.add(1, 1, 1, 0);
        x.add(1, 0, 0, 108);
        x.add(1, 0, 0, 999);
        x.choose(1, 0, false);
        x.send(2, 0, 109);
        due("receive", x.receive(3, 0), 1);
        due("the last value", x.channel(0, 10), 108);
        due("its case", x.last(1), last(0, 1));
        due("it has left the other channel", x.waiting(1, 1, 0), -1);
        due("the next sender", x.waiting(0, 0, 0), 2);
    }

    // Terms: CLOSE.

    private static void closing() {
        aReceiverGets0AtAClose();
        aSenderHasAFaultAtAClose();
        aChoiceEndsAsItsFirstCaseThereSays();
        aCloseLeavesTheOtherChannels();
        aCloseLeavesTheValues();
    }

    private static void aReceiverGets0AtAClose() {
        sentence = "close: a receiver gets 0, not sent";
        for (int many = 1; many <= 16; many++) {
            ChannelDesk x = deskWith(0, 1);
            for (int r = 0; r < many; r++) {
                x.send(r, 1, 9);
                x.receive(r, 1);
                x.receive(r, 0);
            }
            due("waited", x.close(0), many);
            for (int r = 0; r < many; r++) {
                due("ready", x.state(r), 0);
                due("got", x.got(r), 0);
                due("not sent", x.last(r), last(0, -1));
            }
            due("none waits", x.count(1), 0);
            due("no fault", x.count(3), 0);
        }
    }

    private static void aSenderHasAFaultAtAClose() {
        sentence = "close: a sender has a fault";
        for (int many = 1; many <= 16; many++) {
            ChannelDesk x = deskWith(0);
            for (int r = 15; r > 15 - many; r--) {
                x.send(r, 0, 9);
            }
            due("waited", x.close(0), many);
            for (int r = 0; r < 16; r++) {
                due("state", x.state(r), r > 15 - many ? 4 : 0);
                due("last", x.last(r), last(0, -1));
            }
            due("faults", x.count(3), many);
            due("none waits", x.count(1), 0);
            due("no meeting", x.count(2), 0);
        }
    }

    private static void aChoiceEndsAsItsFirstCaseThereSays() {
        sentence = "close: one in a choice: as the first of its cases at this channel says";
        for (int before = 0; before < 6; before++) {
            for (int way = 0; way < 2; way++) {
                ChannelDesk x = deskWith(0, 0, 1);
                x.send(0, 2, 5);
                x.receive(0, 2);
                for (int i = 0; i < 6; i++) {
                    x.add(0, i < before ? 1 : 0, i == before ? way : 1 - way, 0);
                }
                x.choose(0, 0, false);
                due("it counts once", x.close(0), 1);
                due("its state", x.state(0), way == 0 ? 4 : 0);
                due("the case", x.last(0), last(way == 0 ? 1 : 0, before));
                due("got", x.got(0), way == 0 ? 5 : 0);
                due("faults", x.count(3), 1 - way);
                due("it waits nowhere", x.count(1), 0);
                due("not at the other channel", x.close(1), 0);
                due("its cases are gone", x.add(0, 0, 0, 0), 1);
            }
        }
    }

    private static void aCloseLeavesTheOtherChannels() {
        sentence = "close: all who wait there, and nobody else";
        ChannelDesk x = deskWith(0, 0, 0);
        x.send(0, 0, 1);
        x.send(1, 1, 2);
        x.receive(2, 2);
        x.add(3, 0, 0, 3);
        x.add(3, 2, 1, 0);
        x.choose(3, 0, false);
        x.choose(4, 0, false);
        due("the middle one", x.close(1), 1);
        due("at 0 to send", x.state(0), 1);
        due("at 2 to receive", x.state(2), 2);
        due("in a choice", x.state(3), 3);
        due("in a choice without cases", x.state(4), 3);
        due("open", x.channel(0, 2) + x.channel(2, 2), 0);
        due("they are met as before", x.receive(5, 0), 1);
        due("got", x.got(5), 1);
        due("two at the last", x.close(2), 2);
        due("none at the first now", x.close(0), 0);
    }

    private static void aCloseLeavesTheValues() {
        sentence = "close: the values stay, those of waiting senders do not come";
        for (int room = 0; room <= 8; room++) {
            ChannelDesk x = deskWith(room);
            fill(x, 0, 0, room);
            x.send(1, 0, 55);
            due("close", x.close(0), 1);
            due("values", x.channel(0, 0), room);
            for (int i = 0; i < room; i++) {
                x.receive(2, 0);
                due("got", x.got(2), 100 + i);
            }
            x.receive(2, 0);
            due("nothing more", x.last(2), last(0, -1));
            due("room", x.channel(0, 1), room);
        }
    }

    // Terms: faults, and the order of those who wait.

    private static void faultsAndOrder() {
        aFaultIsToldUntilItDoesSomething();
        behindAFaultItIsReady();
        aFaultIsNotToldOfOthers();
        theyStandAsTheyBeganToWait();
        oneWhoComesAgainStandsBehind();
    }

    /** Channels 0 closed, 1 with room, 2 with a value, 3 without room. */
    private static ChannelDesk deskWithAFault() {
        ChannelDesk x = deskWith(0, 1, 1, 0);
        x.send(1, 2, 9);
        x.close(0);
        x.send(0, 0, 5);
        due("behind a fault", x.state(0), 4);
        return x;
    }

    private static int stateBehindChoice(int channel, int way, boolean hasDefault) {
        ChannelDesk x = deskWithAFault();
        x.add(0, channel, way, 3);
        due("a case is not a deed yet", x.state(0), 4);
        x.choose(0, 0, hasDefault);
        return x.state(0);
    }

    private static int stateBehindSend(int channel) {
        ChannelDesk x = deskWithAFault();
        x.send(0, channel, 3);
        return x.state(0);
    }

    private static int stateBehindReceive(int channel) {
        ChannelDesk x = deskWithAFault();
        x.receive(0, channel);
        return x.state(0);
    }

    private static void aFaultIsToldUntilItDoesSomething() {
        sentence = "the fault is told until it does something";
        due("a send with a fault", stateBehindSend(0), 4);
        due("a send that is done", stateBehindSend(1), 0);
        due("a send that waits", stateBehindSend(3), 1);
        due("a receive that is not sent", stateBehindReceive(0), 0);
        due("a receive that is done", stateBehindReceive(2), 0);
        due("a receive that waits", stateBehindReceive(3), 2);
        due("a choice with a fault", stateBehindChoice(0, 0, true), 4);
        due("a choice that is not sent", stateBehindChoice(0, 1, true), 0);
        due("a choice that sends", stateBehindChoice(1, 0, true), 0);
        due("a choice that receives", stateBehindChoice(2, 1, true), 0);
        due("a choice with its default", stateBehindChoice(3, 1, true), 0);
        due("a choice that waits", stateBehindChoice(3, 1, false), 3);
        ChannelDesk x = deskWith(0);
        x.send(0, 0, 1);
        x.close(0);
        due("a fault at a close", x.state(0), 4);
        x.receive(0, 0);
        due("until a receive", x.state(0), 0);
    }

    private static void behindAFaultItIsReady() {
        sentence = "behind a fault a routine is ready again";
        due("send", deskWithAFault().send(0, 1, 1), 1);
        due("send that waits", deskWithAFault().send(0, 3, 1), 2);
        due("send with a fault again", deskWithAFault().send(0, 0, 1), 3);
        due("receive", deskWithAFault().receive(0, 2), 1);
        due("add", deskWithAFault().add(0, 2, 0, 1), 1);
        due("choose", deskWithAFault().choose(0, 0, true), 10);
        due("it is not counted among those who wait", deskWithAFault().count(1), 0);
        ChannelDesk x = deskWithAFault();
        x.send(0, 3, 1);
        x.receive(1, 3);
        due("through, the fault is not told again", x.state(0), 0);
    }

    private static void aFaultIsNotToldOfOthers() {
        sentence = "the fault is told until IT does something";
        ChannelDesk x = deskWithAFault();
        x.send(1, 1, 1);
        x.receive(2, 1);
        x.choose(3, 0, true);
        x.close(3);
        x.make(1);
        due("it is told still", x.state(0), 4);
        due("not of another", x.state(1), 0);
    }

    private static void theyStandAsTheyBeganToWait() {
        sentence = "those who wait: in the order in which they began (a choice once for all its cases)";
        ChannelDesk x = deskWith(0, 0);
        int[] order = {7, 3, 15, 0, 9};
        for (int i = 0; i < order.length; i++) {
            if (i % 2 == 0) {
                x.add(order[i], 1, 1, 0);
                x.add(order[i], 0, 0, 80 + i);
                x.add(order[i], 0, 0, 90 + i);
                x.choose(order[i], 0, false);
            } else {
                x.send(order[i], 0, 80 + i);
            }
        }
        for (int i = 0; i < order.length; i++) {
            due("place " + i, x.waiting(0, 0, i), order[i]);
            due("place at the other", x.waiting(1, 1, i), i <= 2 ? order[2 * i] : -1);
        }
        for (int i = 0; i < order.length; i++) {
            x.receive(1, 0);
            due("met in their order", x.got(1), 80 + i);
        }
        due("none is left", x.count(1), 0);
    }

    private static void oneWhoComesAgainStandsBehind() {
        sentence = "in the order in which they began to wait, anew each time";
        ChannelDesk x = deskWith(0);
        for (int r = 0; r < 3; r++) {
            x.receive(r, 0);
        }
        for (int i = 0; i < 40; i++) {
            x.send(9, 0, i);
            due("the first of them got it", x.got(i % 3), i);
            due("it waits again", x.receive(i % 3, 0), 2);
            due("as the last", x.waiting(0, 1, 2), i % 3);
            due("behind the other", x.waiting(0, 1, 0), (i + 1) % 3);
            due("three wait", x.waiting(0, 1, 3), -1);
        }
    }

    // Promises 1 to 6.

    private static void promises1To6() {
        aNewDeskHasNoChannels();
        makeTakesRooms0And8();
        addCountsToSix();
        aSendOrReceiveInBetweenForgetsTheCases();
        whatOthersDoForgetsNoCase();
        theCasesAreGoneIfItDoesNotWait();
        chooseAnswers12AtAFault();
        aSeedOf0();
    }

    private static void aNewDeskHasNoChannels() {
        sentence = "a new object: all routines are ready; no channels";
        ChannelDesk x = new ChannelDesk();
        for (int what = 0; what < 4; what++) {
            due("count(" + what + ")", x.count(what), 0);
        }
        due("channel 0", x.channel(0, 0), -1);
        for (int r = 0; r < 16; r++) {
            due("state", x.state(r), 0);
            due("got", x.got(r), 0);
            due("last", x.last(r), last(0, -1));
            due("it can choose", x.choose(r, 0, true), 10);
        }
    }

    private static void makeTakesRooms0And8() {
        sentence = "make: a new channel: its number, room 0 .. 8";
        for (int room = 0; room <= 8; room++) {
            ChannelDesk x = deskWith(3);
            due("make", x.make(room), 1);
            due("room", x.channel(1, 1), room);
            due("values", x.channel(1, 0), 0);
            due("closed", x.channel(1, 2), 0);
            due("channels", x.count(0), 2);
            due("room of the one before", x.channel(0, 1), 3);
        }
        ChannelDesk x = new ChannelDesk();
        for (int c = 0; c < 40; c++) {
            due("the 40th too", x.make(8), c);
        }
        due("channels", x.count(0), 40);
    }

    private static void addCountsToSix() {
        sentence = "add: how many there are";
        ChannelDesk x = deskWith(0);
        for (int i = 1; i <= 6; i++) {
            due("of routine 0", x.add(0, 0, i % 2, i), i);
            due("of routine 15", x.add(15, 0, 1 - i % 2, i), i);
        }
        due("of another", x.add(1, 0, 1, 0), 1);
        due("they are no deed", x.count(1), 0);
        due("nor a wait", x.waiting(0, 0, 0), -1);
    }

    private static void aSendOrReceiveInBetweenForgetsTheCases() {
        sentence = "add: a send or receive of it in between forgets them all";
        for (int deed = 0; deed < 6; deed++) {
            for (int before = 1; before <= 6; before++) {
                ChannelDesk x = deskWith(0, 1, 0);
                x.close(0);
                x.send(1, 1, 3);
                for (int i = 0; i < before; i++) {
                    x.add(0, 0, 1, 0);
                }
                doDeed(x, deed);
                due("ready behind deed " + deed, x.add(0, 2, 0, 8), 1);
                due("of the forgotten ones none is possible", x.choose(0, 0, true), 10);
            }
        }
    }

    private static void doDeed(ChannelDesk x, int deed) {
        if (deed == 0) {
            due("a send with a fault", x.send(0, 0, 1), 3);
        } else if (deed == 1) {
            due("a receive at a closed one", x.receive(0, 0), 1);
        } else if (deed == 2) {
            due("a receive that is done", x.receive(0, 1), 1);
        } else if (deed == 3) {
            due("a value leaves", x.receive(1, 1), 1);
            due("a send that is done", x.send(0, 1, 1), 1);
        } else if (deed == 4) {
            due("a send that waits", x.send(0, 2, 1), 2);
            due("it is met", x.receive(1, 2), 1);
        } else {
            due("a receive that waits", x.receive(0, 2), 2);
            due("it is met", x.send(1, 2, 1), 1);
        }
    }

    private static void whatOthersDoForgetsNoCase() {
        sentence = "add: a send or receive of IT";
        ChannelDesk x = deskWith(1, 0);
        x.add(0, 0, 0, 5);
        x.send(1, 0, 1);
        x.receive(2, 0);
        x.choose(3, 0, true);
        x.close(1);
        x.make(2);
        due("the second", x.add(0, 1, 1, 0), 2);
        due("the first is there", x.choose(0, 0, true), 0);
        due("its value", x.channel(0, 3), 5);
    }

    private static void theCasesAreGoneIfItDoesNotWait() {
        sentence = "choose: its cases, which are gone then";
        ChannelDesk x = deskWith(8, 0, 0);
        x.close(2);
        addSix(x, 0, 0);
        due("a case is done", x.choose(0, 0, false), 0);
        addSix(x, 2, 0);
        due("a fault", x.choose(0, 5, false), 12);
        addSix(x, 2, 1);
        due("not sent", x.choose(0, 5, false), 5);
        addSix(x, 1, 0);
        due("the default", x.choose(0, 0, true), 10);
        addSix(x, 1, 0);
        due("it waits", x.choose(0, 0, false), 11);
        due("it is met", x.receive(1, 1), 1);
        addSix(x, 1, 1);
        due("it waits again", x.choose(0, 0, false), 11);
        due("a close ends it", x.close(1), 1);
        addSix(x, 1, 0);
        due("without another add", x.choose(0, 0, false), 12);
        due("there is none", x.choose(0, 0, true), 10);
    }

    private static void addSix(ChannelDesk x, int channel, int way) {
        for (int i = 1; i <= 6; i++) {
            due("add", x.add(0, channel, way, i), i);
        }
    }

    private static void chooseAnswers12AtAFault() {
        sentence = "choose: 12 a fault (the case was to send, and the channel is closed)";
        for (int number = 0; number < 6; number++) {
            ChannelDesk x = deskWith(2, 0);
            x.close(0);
            for (int i = 0; i < 6; i++) {
                x.add(0, i == number ? 0 : 1, i == number ? 0 : 1, 7);
            }
            due("choose", x.choose(0, number, number % 2 == 0), 12);
            due("state", x.state(0), 4);
            due("the case as well", x.last(0), last(0, number));
            due("faults", x.count(3), 1);
            due("values", x.channel(0, 0), 0);
            due("none waits", x.count(1), 0);
        }
    }

    private static void aSeedOf0() {
        sentence = "choose: refused if seed is below 0, not at 0";
        ChannelDesk x = deskWith(1);
        x.add(0, 0, 0, 1);
        due("seed 0", x.choose(0, 0, false), 0);
        due("seed 0 with the default", x.choose(0, 0, true), 10);
        due("seed 0 that waits", x.choose(0, 0, false), 11);
    }

    // Promises 7 to 14.

    private static void promises7To14() {
        closeWhereNobodyWaits();
        closeCountsThoseWhoWaited();
        gotIs0AtFirstOrNotSent();
        lastOfAReceive();
        lastOfAChoice();
        waitingFromTheFirstToTheLast();
        noIthValueIs0();
        countOfThoseWhoWait();
        meetingsOfTwoRoutines();
        faultsInAll();
        clearTellsHowManyChannelsThereWere();
        aClearedDeskIsAsAtFirst();
    }

    private static void closeWhereNobodyWaits() {
        sentence = "close: nobody waits there";
        for (int room = 0; room <= 8; room += 4) {
            ChannelDesk x = deskWith(room);
            fill(x, 0, 0, room);
            due("close", x.close(0), 0);
            due("closed", x.channel(0, 2), 1);
            due("values", x.channel(0, 0), room);
            due("no fault", x.count(3), 0);
            due("once more", x.close(0), -2);
        }
    }

    private static void closeCountsThoseWhoWaited() {
        sentence = "close: how many waited there";
        ChannelDesk x = deskWith(0);
        for (int r = 0; r < 16; r++) {
            x.add(r, 0, 0, 1);
            x.add(r, 0, 0, 2);
            due("choose", x.choose(r, 0, false), 11);
        }
        due("sixteen choices", x.close(0), 16);
        due("sixteen faults", x.count(3), 16);
        due("once more", x.close(0), -2);
    }

    private static void gotIs0AtFirstOrNotSent() {
        sentence = "got: received last (0 at first, or not sent)";
        ChannelDesk x = deskWith(1, 0, 0);
        due("at first", x.got(0), 0);
        x.send(0, 0, 7);
        due("a send gets nothing", x.got(0), 0);
        x.receive(0, 0);
        due("received", x.got(0), 7);
        x.send(0, 0, 8);
        due("a send leaves it", x.got(0), 7);
        x.close(2);
        x.send(0, 2, 1);
        due("a fault leaves it", x.got(0), 7);
        x.choose(0, 0, true);
        due("a default leaves it", x.got(0), 7);
        x.receive(0, 1);
        due("as long as it waits", x.got(0), 7);
        x.close(1);
        due("not sent", x.got(0), 0);
        x.receive(0, 0);
        due("received again", x.got(0), 8);
        x.receive(0, 2);
        due("not sent again", x.got(0), 0);
    }

    private static void lastOfAReceive() {
        sentence = "last: of the last receive 1 if a value was sent, 0 if not (and at first)";
        ChannelDesk x = deskWith(1, 0);
        due("at first", x.last(0), last(0, -1));
        x.send(0, 0, 1);
        due("behind a send", x.last(0), last(0, -1));
        x.receive(0, 0);
        due("sent", x.last(0), last(1, -1));
        x.send(0, 0, 1);
        due("a send leaves it", x.last(0), last(1, -1));
        x.close(1);
        x.send(0, 1, 1);
        due("a fault leaves it", x.last(0), last(1, -1));
        x.receive(0, 1);
        due("not sent", x.last(0), last(0, -1));
        x.add(0, 0, 1, 0);
        x.choose(0, 0, true);
        due("sent, in a choice", x.last(0), last(1, 0));
        x.add(0, 1, 1, 0);
        x.choose(0, 0, true);
        due("not sent, in a choice", x.last(0), last(0, 0));
    }

    private static void lastOfAChoice() {
        sentence = "last: of its last choice, which case (10, -1 at first, and as long as it waits)";
        ChannelDesk x = deskWith(0, 0);
        due("at first", x.last(0), 2);
        x.choose(0, 0, true);
        due("the default", x.last(0), 24);
        x.add(0, 0, 1, 0);
        due("a case is no choice yet", x.last(0), 24);
        x.choose(0, 0, false);
        due("as long as it waits", x.last(0), 2);
        x.send(1, 0, 4);
        due("case 0, sent", x.last(0), 5);
        for (int i = 0; i < 6; i++) {
            x.add(0, 1, 1, 0);
        }
        x.choose(0, 0, false);
        due("as long as it waits again", x.last(0), 3);
        x.close(1);
        due("case 0, not sent", x.last(0), 4);
        for (int i = 0; i < 6; i++) {
            x.add(0, 1, 0, 0);
        }
        x.choose(0, 5, false);
        due("behind a fault as well the case", x.last(0), 14);
        due("of another nothing", x.last(1), 2);
    }

    private static void waitingFromTheFirstToTheLast() {
        sentence = "waiting: i-th (from 0), way 0 to send, 1 to receive; -1 if there is none";
        for (int way = 0; way < 2; way++) {
            ChannelDesk x = deskWith(0, 0);
            for (int i = 0; i < 16; i++) {
                int r = (5 * i + 3) % 16;
                due("it waits", way == 0 ? x.send(r, 1, i) : x.receive(r, 1), 2);
                due("as the last", x.waiting(1, way, i), r);
                due("none behind it", x.waiting(1, way, i + 1), -1);
                due("not the other way", x.waiting(1, 1 - way, 0), -1);
                due("not at the other channel", x.waiting(0, way, 0), -1);
            }
            due("the first still", x.waiting(1, way, 0), 3);
            due("before the first", x.waiting(1, way, -1), -1);
            x.close(1);
            due("none at a closed one", x.waiting(1, way, 0), -1);
        }
    }

    private static void noIthValueIs0() {
        sentence = "channel: 3 + i the i-th value (0 if there is none)";
        for (int held = 0; held <= 8; held++) {
            ChannelDesk x = deskWith(8, 8);
            fill(x, 0, 0, 8);
            for (int i = 0; i < 8 - held; i++) {
                x.receive(1, 0);
            }
            for (int i = 0; i < 8; i++) {
                due("value " + i + " of " + held, x.channel(0, 3 + i), i < held ? 108 - held + i : 0);
                due("value of the empty one", x.channel(1, 3 + i), 0);
            }
        }
        ChannelDesk x = deskWith(0);
        x.send(0, 0, 9);
        due("no room", x.channel(0, 3), 0);
        due("no room for the last", x.channel(0, 10), 0);
    }

    private static void countOfThoseWhoWait() {
        sentence = "count: 1 routines that wait";
        ChannelDesk x = deskWith(0, 0, 0);
        x.close(1);
        x.send(15, 1, 1);
        for (int r = 0; r < 15; r++) {
            due("so far", x.count(1), r);
            if (r % 3 == 0) {
                x.send(r, 0, 1);
            } else if (r % 3 == 1) {
                x.receive(r, 2);
            } else {
                x.add(r, 0, 0, 1);
                x.add(r, 2, 1, 0);
                x.choose(r, 0, false);
            }
        }
        due("fifteen, one is behind a fault", x.count(1), 15);
        x.choose(15, 0, false);
        due("all", x.count(1), 16);
        x.close(0);
        due("those to receive, and one nowhere", x.count(1), 6);
        x.close(2);
        due("one nowhere", x.count(1), 1);
    }

    private static void meetingsOfTwoRoutines() {
        sentence = "count: 2 meetings of two routines in all";
        ChannelDesk x = deskWith(1, 0);
        x.send(0, 0, 1);
        x.receive(1, 0);
        due("through a room", x.count(2), 0);
        x.receive(1, 0);
        x.send(0, 0, 2);
        due("to a receiver", x.count(2), 1);
        x.send(0, 1, 3);
        x.receive(1, 1);
        due("from a sender", x.count(2), 2);
        x.send(0, 0, 4);
        x.send(0, 0, 5);
        x.receive(1, 0);
        due("a sender is let in", x.count(2), 3);
        x.receive(1, 0);
        due("no more", x.count(2), 3);
        x.add(0, 1, 0, 6);
        x.choose(0, 0, false);
        x.add(1, 1, 1, 0);
        x.choose(1, 0, false);
        due("two choices", x.count(2), 4);
        x.receive(0, 1);
        x.close(1);
        x.receive(1, 1);
        due("a close is none", x.count(2), 4);
    }

    private static void faultsInAll() {
        sentence = "count: 3 faults in all";
        ChannelDesk x = deskWith(0, 0);
        x.send(0, 0, 1);
        x.add(1, 0, 0, 1);
        x.choose(1, 0, false);
        due("none yet", x.count(3), 0);
        x.close(0);
        due("two at a close", x.count(3), 2);
        for (int i = 0; i < 20; i++) {
            x.send(0, 0, 1);
            due("one routine again and again", x.count(3), 3 + 2 * i);
            x.add(1, 0, 0, 1);
            x.choose(1, i, true);
            due("in a choice", x.count(3), 4 + 2 * i);
        }
        x.receive(0, 0);
        due("a receive is none", x.count(3), 42);
        due("nor a wait", x.send(0, 1, 1), 2);
        due("faults", x.count(3), 42);
    }

    private static void clearTellsHowManyChannelsThereWere() {
        sentence = "clear: how many channels there were";
        for (int many = 0; many <= 40; many++) {
            ChannelDesk x = new ChannelDesk();
            for (int c = 0; c < many; c++) {
                x.make(c % 9);
            }
            due("clear", x.clear(), many);
            due("and again", x.clear(), 0);
            for (int c = 0; c < 40; c++) {
                due("forty anew", x.make(0), c);
            }
            due("not one more", x.make(0), -1);
            due("clear then", x.clear(), 40);
        }
    }

    private static void aClearedDeskIsAsAtFirst() {
        sentence = "clear: all is as at first";
        for (int past = 0; past < 4; past++) {
            ChannelDesk cleared = new ChannelDesk();
            liveThroughPast(cleared, past);
            cleared.clear();
            ChannelDesk fresh = new ChannelDesk();
            compareNow(cleared, fresh);
            compareLater(cleared, fresh);
        }
    }

    private static void liveThroughPast(ChannelDesk x, int past) {
        for (int c = 0; c < 4; c++) {
            x.make(past == 0 ? 0 : 2);
        }
        for (int r = 0; r < 16; r++) {
            x.send(r, r % 4, 70 + r);
            x.receive((r + 3) % 16, r % 4);
            x.add(r, r % 4, r % 2, 7);
            if (past >= 2) {
                x.choose(r, r, r % 3 == 0);
            }
        }
        for (int c = 0; c < 4; c++) {
            if (past == 3) {
                x.close(c);
                x.send(c, c, 5);
                x.add(c + 4, c, 0, 5);
                x.choose(c + 4, 0, false);
            }
            x.add(15, c, 1, 7);
        }
    }

    private static void compareNow(ChannelDesk x, ChannelDesk y) {
        for (int r = 0; r < 16; r++) {
            due("state", x.state(r), y.state(r));
            due("got", x.got(r), y.got(r));
            due("last", x.last(r), y.last(r));
        }
        for (int what = 0; what < 4; what++) {
            due("count(" + what + ")", x.count(what), y.count(what));
            due("channel " + what, x.channel(what, 0), y.channel(what, 0));
            due("waiting to send", x.waiting(what, 0, 0), y.waiting(what, 0, 0));
            due("waiting to receive", x.waiting(what, 1, 0), y.waiting(what, 1, 0));
        }
    }

    private static void compareLater(ChannelDesk x, ChannelDesk y) {
        for (int c = 0; c < 4; c++) {
            due("make", x.make(c), y.make(c));
            for (int what = 0; what <= 10; what++) {
                due("channel, " + what, x.channel(c, what), y.channel(c, what));
            }
        }
        for (int r = 0; r < 16; r++) {
            due("add", x.add(r, r % 4, r % 2, 9), y.add(r, r % 4, r % 2, 9));
            due("choose", x.choose(r, r, false), y.choose(r, r, false));
            due("receive", x.receive(r, 3), y.receive(r, 3));
            due("send", x.send(r, 2, r), y.send(r, 2, r));
        }
        for (int c = 0; c < 4; c++) {
            due("close", x.close(c), y.close(c));
        }
        compareNow(x, y);
    }
}
