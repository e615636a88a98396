/** A method or more for each promise of the document: ordinary inputs, the edges it names, wrong inputs. */
public final class ChannelDeskPromises {
    private static final int LOW = Integer.MIN_VALUE;
    private static final int HIGH = Integer.MAX_VALUE;

    private static int wrong = 0;

    public static void main(String[] args) {
        promise1NewObject();
        promise2Make();
        promise3Send();
        promise3SendMeetsTheFirstReceiver();
        promise3SendRefused();
        promise4Receive();
        promise4ReceiveFromClosed();
        promise4ReceiveRefused();
        promise5Add();
        promise5AddForgotten();
        promise5AddRefused();
        promise6ChoosePossible();
        promise6ChooseAtClosed();
        promise6ChooseDefaultAndEmpty();
        promise6ChooseWaits();
        promise6ChooseWithOneself();
        promise6ChooseFillsRoom();
        promise6ChooseRefused();
        promise7Close();
        promise7CloseChoices();
        promise8State();
        promise8FaultIsTold();
        promise9Got();
        promise10Last();
        promise10LastWhileWaiting();
        promise11Waiting();
        promise12Channel();
        promise13Count();
        promise14Clear();
        System.out.println(wrong == 0 ? "all answers are as due" : wrong + " answers are not as due");
        if (wrong != 0) {
            System.exit(1);
        }
    }

    private static void due(String call, int answer, int want) {
        if (answer != want) {
            wrong++;
            System.out.println(call + " answered " + answer + ", due is " + want);
        }
    }

    private static ChannelDesk deskWith(int... rooms) {
        ChannelDesk desk = new ChannelDesk();
        for (int i = 0; i < rooms.length; i++) {
            due("making channel " + i, desk.make(rooms[i]), i);
        }
        return desk;
    }

    private static void dueAsAtFirst(String when, ChannelDesk x) {
        for (int r = 0; r < 16; r++) {
            due(when + ": state(" + r + ")", x.state(r), 0);
            due(when + ": got(" + r + ")", x.got(r), 0);
            due(when + ": last(" + r + ")", x.last(r), 2);
        }
        for (int what = 0; what <= 3; what++) {
            due(when + ": count(" + what + ")", x.count(what), 0);
        }
        for (int c = 0; c < 40; c++) {
            due(when + ": channel(" + c + ", 0)", x.channel(c, 0), -1);
            due(when + ": waiting(" + c + ", 0, 0)", x.waiting(c, 0, 0), -1);
        }
    }

    private static void promise1NewObject() {
        dueAsAtFirst("1: new", new ChannelDesk());
    }

    private static void promise2Make() {
        ChannelDesk x = new ChannelDesk();
        for (int room : new int[] {-1, 9, LOW, HIGH}) {
            due("2: make(" + room + ")", x.make(room), -1);
        }
        due("2: refused makes leave no channel", x.count(0), 0);
        for (int c = 0; c < 40; c++) {
            due("2: make of channel " + c, x.make(c % 9), c);
            due("2: its room", x.channel(c, 1), c % 9);
        }
        due("2: the 41st", x.make(0), -1);
        due("2: channels", x.count(0), 40);
        due("2: the last channel is of use", x.send(15, 39, 6), 1);
        due("2: its value", x.channel(39, 3), 6);
    }

    private static void promise3Send() {
        ChannelDesk x = deskWith(0, 2, 8);
        due("3: no room", x.send(0, 0, 5), 2);
        due("3: room for the first", x.send(1, 1, 6), 1);
        due("3: room for the second", x.send(1, 1, 7), 1);
        due("3: no room for the third", x.send(1, 1, 8), 2);
        due("3: first value", x.channel(1, 3), 6);
        due("3: second value", x.channel(1, 4), 7);
        due("3: the third is not inside", x.channel(1, 0), 2);
        for (int i = 0; i < 8; i++) {
            due("3: eight find room", x.send(2, 2, -i), 1);
        }
        due("3: the ninth waits", x.send(2, 2, 9), 2);
        x.close(2);
        due("3: at a closed channel", x.send(3, 2, 1), 3);
        due("3: the closed channel keeps its values", x.channel(2, 0), 8);
    }

    private static void promise3SendMeetsTheFirstReceiver() {
        ChannelDesk x = deskWith(0, 3);
        x.receive(4, 1);
        x.receive(2, 0);
        x.receive(3, 0);
        due("3: send to the first", x.send(0, 0, 11), 1);
        due("3: it is through", x.state(2), 0);
        due("3: the second waits on", x.state(3), 2);
        due("3: got by the first", x.got(2), 11);
        due("3: send to the second", x.send(0, 0, 12), 1);
        due("3: got by the second", x.got(3), 12);
        due("3: none is left", x.send(0, 0, 13), 2);
        due("3: a receiver goes before the room", x.send(1, 1, 14), 1);
        due("3: got past the room", x.got(4), 14);
        due("3: nothing inside", x.channel(1, 0), 0);
    }

    private static void promise3SendRefused() {
        ChannelDesk x = deskWith(0, 1);
        x.send(0, 0, 1);
        x.receive(1, 1);
        due("3: waits to send", x.send(0, 1, 1), -1);
        due("3: waits to receive", x.send(1, 1, 1), -1);
        for (int bad : new int[] {-1, 16, LOW, HIGH}) {
            due("3: routine " + bad, x.send(bad, 1, 1), -1);
        }
        for (int bad : new int[] {-1, 2, 40, LOW, HIGH}) {
            due("3: channel " + bad, x.send(2, bad, 1), -1);
        }
        due("3: nothing has come in", x.channel(1, 0), 0);
        due("3: the receiver waits on", x.state(1), 2);
        due("3: two wait", x.count(1), 2);
    }

    private static void promise4Receive() {
        ChannelDesk x = deskWith(0, 2);
        due("4: nobody is there", x.receive(0, 0), 2);
        for (int v = 1; v <= 2; v++) {
            x.send(1, 1, v);
        }
        x.send(1, 1, 3);
        x.send(2, 1, 4);
        due("4: the first value", x.receive(3, 1), 1);
        due("4: is got", x.got(3), 1);
        due("4: the first sender is through", x.state(1), 0);
        due("4: the second sender waits on", x.state(2), 1);
        due("4: still full", x.channel(1, 0), 2);
        due("4: the sender's value is behind", x.channel(1, 4), 3);
        for (int v = 2; v <= 4; v++) {
            due("4: next", x.receive(3, 1), 1);
            due("4: next got", x.got(3), v);
        }
        due("4: empty", x.channel(1, 0), 0);
        due("4: none is left", x.receive(3, 1), 2);
        due("4: to the one who waits", x.send(1, 0, 5), 1);
        x.send(4, 0, 21);
        x.send(5, 0, 22);
        due("4: from the first sender", x.receive(6, 0), 1);
        due("4: its value", x.got(6), 21);
        due("4: it was sent", x.last(6), 3);
        due("4: the first is through", x.state(4), 0);
        due("4: the second waits on", x.state(5), 1);
    }

    private static void promise4ReceiveFromClosed() {
        ChannelDesk x = deskWith(2);
        x.send(0, 0, 8);
        x.close(0);
        due("4: a value is left in the closed one", x.receive(1, 0), 1);
        due("4: it is got", x.got(1), 8);
        due("4: it was sent", x.last(1), 3);
        due("4: the closed one is empty", x.receive(1, 0), 1);
        due("4: 0 is got", x.got(1), 0);
        due("4: not sent", x.last(1), 2);
        due("4: a 0 of its own is no fault", x.state(1), 0);
    }

    private static void promise4ReceiveRefused() {
        ChannelDesk x = deskWith(0, 1);
        x.send(0, 0, 1);
        x.send(2, 1, 9);
        x.add(1, 0, 0, 1);
        x.receive(3, 0);
        x.receive(3, 0);
        due("4: waits to receive", x.receive(3, 1), -1);
        for (int bad : new int[] {-1, 16, LOW, HIGH}) {
            due("4: routine " + bad, x.receive(bad, 1), -1);
        }
        for (int bad : new int[] {-1, 2, 40, LOW, HIGH}) {
            due("4: channel " + bad, x.receive(1, bad), -1);
        }
        due("4: the value is there still", x.channel(1, 3), 9);
        due("4: a refused receive forgets no case", x.add(1, 0, 0, 1), 2);
    }

    private static void promise5Add() {
        ChannelDesk x = deskWith(8);
        for (int i = 1; i <= 6; i++) {
            due("5: case " + i, x.add(0, 0, 0, i), i);
        }
        due("5: the seventh", x.add(0, 0, 1, 7), -1);
        due("5: another routine has its own", x.add(15, 0, 1, 0), 1);
        due("5: the six are as they were", x.choose(0, 5, false), 5);
        due("5: the sixth value", x.channel(0, 3), 6);
        due("5: from the start again", x.add(0, 0, 1, 0), 1);
    }

    private static void promise5AddForgotten() {
        ChannelDesk x = deskWith(2, 0);
        x.add(0, 0, 0, 1);
        x.add(0, 0, 0, 2);
        x.add(1, 0, 1, 0);
        x.send(0, 0, 3);
        due("5: a send forgets", x.add(0, 0, 0, 1), 1);
        due("5: not those of another", x.add(1, 0, 1, 0), 2);
        x.receive(0, 0);
        due("5: a receive forgets", x.add(0, 0, 0, 1), 1);
        x.send(0, 40, 1);
        x.receive(0, 40);
        due("5: what is refused does not", x.add(0, 0, 0, 1), 2);
        x.send(0, 1, 4);
        x.receive(2, 1);
        due("5: a send that waited forgets", x.add(0, 0, 0, 1), 1);
        x.receive(0, 1);
        x.send(2, 1, 4);
        due("5: a receive that waited forgets", x.add(0, 0, 0, 1), 1);
        x.close(0);
        x.send(0, 0, 1);
        due("5: a send with a fault forgets", x.add(0, 0, 1, 0), 1);
    }

    private static void promise5AddRefused() {
        ChannelDesk x = deskWith(0, 0);
        for (int bad : new int[] {-1, 16, LOW, HIGH}) {
            due("5: routine " + bad, x.add(bad, 0, 0, 1), -1);
        }
        for (int bad : new int[] {-1, 2, 40, LOW, HIGH}) {
            due("5: channel " + bad, x.add(0, bad, 0, 1), -1);
        }
        for (int bad : new int[] {-1, 2, LOW, HIGH}) {
            due("5: way " + bad, x.add(0, 0, bad, 1), -1);
        }
        due("5: none was taken", x.add(0, 1, 1, 0), 1);
        x.choose(0, 0, false);
        due("5: waits in a choice", x.add(0, 0, 1, 0), -1);
        x.send(1, 0, 1);
        due("5: waits to send", x.add(1, 0, 1, 0), -1);
        x.receive(2, 1);
        due("5: waits to receive", x.add(2, 0, 1, 0), -1);
    }

    private static void promise6ChoosePossible() {
        for (int seed : new int[] {0, 1, 2, 3, 4, 5, 600, HIGH}) {
            ChannelDesk x = deskWith(0, 2, 0, 0);
            x.send(1, 2, 31);
            x.receive(2, 3);
            x.add(0, 0, 1, 0);
            x.add(0, 1, 0, 41);
            x.add(0, 2, 1, 0);
            x.add(0, 0, 0, 42);
            x.add(0, 3, 0, 43);
            x.add(0, 1, 1, 0);
            int done = new int[] {1, 2, 4}[seed % 3];
            due("6: seed " + seed, x.choose(0, seed, seed % 2 == 0), done);
            due("6: it is ready", x.state(0), 0);
            due("6: room was used", x.channel(1, 3), done == 1 ? 41 : 0);
            due("6: got from the sender", x.got(0), done == 2 ? 31 : 0);
            due("6: the sender", x.state(1), done == 2 ? 0 : 1);
            due("6: the receiver", x.state(2), done == 4 ? 0 : 2);
            due("6: got by the receiver", x.got(2), done == 4 ? 43 : 0);
            due("6: the cases are gone", x.add(0, 0, 1, 0), 1);
        }
    }

    private static void promise6ChooseAtClosed() {
        for (int seed = 0; seed < 4; seed++) {
            ChannelDesk x = deskWith(0, 0);
            x.close(0);
            x.add(0, 1, 1, 0);
            x.add(0, 0, 0, 9);
            x.add(0, 0, 1, 0);
            boolean faulty = seed % 2 == 0;
            due("6: at a closed channel", x.choose(0, seed, true), faulty ? 12 : 2);
            due("6: state then", x.state(0), faulty ? 4 : 0);
            due("6: last then", x.last(0), faulty ? 6 : 8);
            due("6: faults then", x.count(3), faulty ? 1 : 0);
            due("6: the cases are gone then", x.add(0, 0, 1, 0), 1);
        }
    }

    private static void promise6ChooseDefaultAndEmpty() {
        ChannelDesk x = deskWith(0, 1);
        x.add(0, 0, 0, 1);
        x.add(0, 1, 1, 1);
        due("6: the default", x.choose(0, 3, true), 10);
        due("6: nothing waits", x.count(1), 0);
        due("6: the cases are gone behind it", x.add(0, 0, 0, 1), 1);
        x.add(0, 1, 0, 5);
        due("6: possible goes before default", x.choose(0, 0, true), 1);
        due("6: no cases, a default", x.choose(0, 0, true), 10);
        due("6: no cases, no default", x.choose(0, 0, false), 11);
        due("6: it waits", x.state(0), 3);
        due("6: nowhere", x.waiting(0, 0, 0), -1);
        due("6: no close wakes it", x.close(0), 0);
        due("6: it waits on", x.state(0), 3);
    }

    private static void promise6ChooseWaits() {
        ChannelDesk x = deskWith(0, 0, 0);
        x.add(0, 0, 1, 0);
        x.add(0, 1, 0, 51);
        x.add(0, 1, 0, 52);
        x.add(0, 2, 1, 0);
        x.add(0, 1, 1, 0);
        due("6: it waits at all", x.choose(0, 9, false), 11);
        due("6: the first to send is met", x.receive(1, 1), 1);
        due("6: its value", x.got(1), 51);
        due("6: the case", x.last(0), 2 * (1 + 2));
        due("6: it waits at none any more", x.send(1, 0, 1), 2);
        due("6: nor there", x.send(2, 2, 1), 2);
        due("6: the cases are gone behind a wait", x.add(0, 1, 0, 53), 1);
        x.add(0, 1, 1, 0);
        x.add(0, 1, 1, 0);
        due("6: it waits again", x.choose(0, 0, false), 11);
        due("6: the first to receive is met", x.send(3, 1, 61), 1);
        due("6: it has got", x.got(0), 61);
        due("6: the case then", x.last(0), 1 + 2 * (1 + 2));
    }

    private static void promise6ChooseWithOneself() {
        ChannelDesk x = deskWith(0);
        x.add(0, 0, 0, 1);
        x.add(0, 0, 1, 0);
        due("6: a routine does not meet itself", x.choose(0, 0, false), 11);
        x.add(1, 0, 0, 2);
        x.add(1, 0, 1, 0);
        due("6: two choices meet", x.choose(1, 1, false), 1);
        due("6: the one that chose has got", x.got(1), 1);
        due("6: the one that waited has sent", x.last(0), 4);
        due("6: one meeting", x.count(2), 1);
    }

    private static void promise6ChooseFillsRoom() {
        ChannelDesk x = deskWith(1, 0);
        x.send(0, 0, 1);
        x.add(2, 1, 1, 0);
        x.add(2, 0, 0, 2);
        x.choose(2, 0, false);
        x.send(3, 0, 3);
        due("6: a value leaves", x.receive(4, 0), 1);
        due("6: it is the first", x.got(4), 1);
        due("6: the choice came first", x.channel(0, 3), 2);
        due("6: it is ready", x.state(2), 0);
        due("6: its case", x.last(2), 6);
        due("6: the other one waits on", x.state(3), 1);
    }

    private static void promise6ChooseRefused() {
        ChannelDesk x = deskWith(0, 1);
        x.add(0, 1, 0, 1);
        for (int bad : new int[] {-1, LOW}) {
            due("6: seed " + bad, x.choose(0, bad, true), -1);
        }
        for (int bad : new int[] {-1, 16, LOW, HIGH}) {
            due("6: routine " + bad, x.choose(bad, 0, true), -1);
        }
        due("6: last is as at first", x.last(0), 2);
        due("6: the case is there still", x.add(0, 0, 0, 2), 2);
        x.send(1, 0, 1);
        due("6: waits to send", x.choose(1, 0, true), -1);
        due("6: its wait is as before", x.state(1), 1);
        x.receive(2, 1);
        due("6: waits to receive", x.choose(2, 0, true), -1);
        x.choose(3, 0, false);
        due("6: waits in a choice", x.choose(3, 0, true), -1);
    }

    private static void promise7Close() {
        ChannelDesk x = deskWith(0, 1, 0);
        for (int bad : new int[] {-1, 3, 40, LOW, HIGH}) {
            due("7: close(" + bad + ")", x.close(bad), -1);
        }
        for (int r = 0; r < 15; r++) {
            x.receive(r, 0);
        }
        x.receive(15, 2);
        due("7: fifteen waited", x.close(0), 15);
        due("7: once more", x.close(0), -2);
        due("7: not at the other one", x.state(15), 2);
        for (int r = 0; r < 15; r++) {
            due("7: a receiver is ready", x.state(r), 0);
            due("7: it got 0", x.got(r), 0);
            due("7: not sent", x.last(r), 2);
        }
        x.send(0, 1, 70);
        x.send(1, 1, 71);
        x.send(2, 1, 72);
        due("7: two senders", x.close(1), 2);
        due("7: first sender", x.state(1), 4);
        due("7: second sender", x.state(2), 4);
        due("7: two faults", x.count(3), 2);
        due("7: the value stays", x.channel(1, 3), 70);
        due("7: closed", x.channel(1, 2), 1);
        due("7: no meeting", x.count(2), 0);
        due("7: a third time", x.close(1), -2);
    }

    private static void promise7CloseChoices() {
        ChannelDesk x = deskWith(0, 0, 0);
        x.send(3, 2, 66);
        x.receive(0, 2);
        x.add(0, 1, 0, 1);
        x.add(0, 0, 1, 0);
        x.add(0, 0, 0, 2);
        x.choose(0, 0, false);
        x.add(2, 2, 0, 4);
        x.add(2, 1, 0, 5);
        x.add(2, 1, 0, 6);
        x.choose(2, 0, false);
        due("7: one waits there in a choice", x.close(0), 1);
        due("7: as its first case there says", x.state(0), 0);
        due("7: it got 0", x.got(0), 0);
        due("7: case 1, not sent", x.last(0), 6);
        due("7: it waits at none any more", x.waiting(1, 0, 0), 2);
        due("7: the other choice is there", x.close(1), 1);
        due("7: it has a fault", x.state(2), 4);
        due("7: case 1, behind a fault", x.last(2), 6);
        due("7: gone from the other channel", x.waiting(2, 0, 0), -1);
        due("7: one fault", x.count(3), 1);
        due("7: the cases are gone", x.add(2, 2, 1, 0), 1);
    }

    private static void promise8State() {
        ChannelDesk x = deskWith(0, 0, 0, 0);
        for (int bad : new int[] {-1, 16, LOW, HIGH}) {
            due("8: state(" + bad + ")", x.state(bad), -1);
        }
        x.send(0, 0, 1);
        x.receive(1, 1);
        x.add(15, 2, 0, 1);
        due("8: cases alone are no wait", x.state(15), 0);
        x.choose(15, 0, false);
        x.close(3);
        x.send(3, 3, 1);
        due("8: to send", x.state(0), 1);
        due("8: to receive", x.state(1), 2);
        due("8: in a choice", x.state(15), 3);
        due("8: behind a fault", x.state(3), 4);
        due("8: ready", x.state(4), 0);
    }

    private static void promise8FaultIsTold() {
        ChannelDesk x = deskWith(0, 8);
        x.close(0);
        x.send(0, 0, 1);
        x.send(0, 7, 1);
        x.receive(0, 7);
        x.choose(0, -1, true);
        due("8: what is refused leaves the fault", x.state(0), 4);
        x.add(0, 1, 0, 1);
        due("8: a case alone leaves the fault", x.state(0), 4);
        due("8: a choice is done behind it", x.choose(0, 0, false), 0);
        due("8: ready behind a choice", x.state(0), 0);
        x.send(0, 0, 1);
        due("8: a fault again", x.state(0), 4);
        x.send(0, 0, 1);
        due("8: and once more", x.state(0), 4);
        x.send(0, 1, 1);
        due("8: ready behind a send", x.state(0), 0);
        x.send(0, 0, 1);
        x.receive(0, 1);
        due("8: ready behind a receive", x.state(0), 0);
        x.send(0, 0, 1);
        x.choose(0, 0, true);
        due("8: ready behind a default", x.state(0), 0);
        due("8: five faults", x.count(3), 5);
    }

    private static void promise9Got() {
        ChannelDesk x = deskWith(1, 0);
        for (int value : new int[] {LOW, HIGH, -1, 1}) {
            x.send(0, 0, value);
            x.receive(1, 0);
            due("9: got(1)", x.got(1), value);
        }
        due("9: the sender has got none", x.got(0), 0);
        x.receive(1, 0);
        due("9: as long as it waits", x.got(1), 1);
        x.close(0);
        due("9: not sent", x.got(1), 0);
        for (int bad : new int[] {-1, 16, LOW, HIGH}) {
            due("9: got(" + bad + ")", x.got(bad), 0);
        }
    }

    private static void promise10Last() {
        ChannelDesk x = deskWith(8, 0);
        for (int bad : new int[] {-1, 16, LOW, HIGH}) {
            due("10: last(" + bad + ")", x.last(bad), -1);
        }
        for (int i = 0; i < 6; i++) {
            for (int k = 0; k < 6; k++) {
                x.add(0, 0, 0, k);
            }
            x.choose(0, i, false);
            due("10: case " + i, x.last(0), 2 * (i + 2));
        }
        x.receive(0, 0);
        due("10: a receive leaves the case", x.last(0), 1 + 2 * (5 + 2));
        x.send(0, 0, 1);
        due("10: a send leaves both", x.last(0), 1 + 2 * (5 + 2));
        x.choose(0, 0, true);
        due("10: the default leaves the receive", x.last(0), 1 + 2 * (10 + 2));
        x.close(1);
        x.add(0, 1, 1, 0);
        x.choose(0, 0, true);
        due("10: not sent, case 0", x.last(0), 2 * (0 + 2));
    }

    private static void promise10LastWhileWaiting() {
        ChannelDesk x = deskWith(0, 0);
        x.choose(0, 0, true);
        x.receive(0, 0);
        due("10: a receive that waits leaves the choice", x.last(0), 24);
        x.send(1, 0, 1);
        due("10: it was sent", x.last(0), 25);
        x.send(0, 0, 1);
        due("10: a send that waits leaves both", x.last(0), 25);
        x.receive(1, 0);
        due("10: met in a send, no case is done", x.last(0), 25);
        x.add(0, 0, 1, 0);
        x.add(0, 1, 1, 0);
        x.choose(0, 0, false);
        due("10: as long as it waits in a choice", x.last(0), 1 + 2 * (-1 + 2));
        x.close(1);
        due("10: closed under it", x.last(0), 2 * (1 + 2));
    }

    private static void promise11Waiting() {
        ChannelDesk x = deskWith(0, 0);
        int[] order = {9, 0, 15, 4};
        x.send(order[0], 0, 1);
        x.add(order[1], 1, 1, 0);
        x.add(order[1], 0, 0, 1);
        x.add(order[1], 0, 0, 2);
        x.choose(order[1], 0, false);
        x.send(order[2], 0, 1);
        x.send(order[3], 0, 1);
        for (int i = 0; i < order.length; i++) {
            due("11: waiting(0, 0, " + i + ")", x.waiting(0, 0, i), order[i]);
        }
        due("11: one more", x.waiting(0, 0, 4), -1);
        due("11: none to receive", x.waiting(0, 1, 0), -1);
        due("11: the choice, to receive", x.waiting(1, 1, 0), 0);
        due("11: once", x.waiting(1, 1, 1), -1);
        for (int bad : new int[] {-1, LOW, HIGH}) {
            due("11: i " + bad, x.waiting(0, 0, bad), -1);
        }
        for (int bad : new int[] {-1, 2, LOW, HIGH}) {
            due("11: way " + bad, x.waiting(0, bad, 0), -1);
            due("11: channel " + bad, x.waiting(bad, 0, 0), -1);
        }
        x.send(1, 1, 5);
        due("11: the choice has left the middle", x.waiting(0, 0, 1), 15);
        x.receive(2, 0);
        x.send(9, 0, 1);
        due("11: the first has left", x.waiting(0, 0, 0), 15);
        due("11: and come again, behind", x.waiting(0, 0, 2), 9);
    }

    private static void promise12Channel() {
        ChannelDesk x = deskWith(8, 3);
        for (int i = 0; i < 8; i++) {
            x.send(0, 0, 100 + i);
        }
        x.send(0, 1, 55);
        for (int i = 0; i < 8; i++) {
            due("12: value " + i, x.channel(0, 3 + i), 100 + i);
        }
        due("12: values", x.channel(0, 0), 8);
        due("12: room", x.channel(0, 1), 8);
        due("12: open", x.channel(0, 2), 0);
        due("12: values of the second", x.channel(1, 0), 1);
        due("12: room of the second", x.channel(1, 1), 3);
        due("12: value of the second", x.channel(1, 3), 55);
        x.receive(1, 0);
        due("12: they move up", x.channel(0, 3), 101);
        due("12: the last moves up", x.channel(0, 9), 107);
        due("12: behind the last", x.channel(0, 10), 0);
        x.close(0);
        due("12: closed", x.channel(0, 2), 1);
        due("12: the second is not", x.channel(1, 2), 0);
        for (int bad : new int[] {-1, 11, LOW, HIGH}) {
            due("12: what " + bad, x.channel(0, bad), -1);
        }
        for (int bad : new int[] {-1, 2, 40, LOW, HIGH}) {
            due("12: channel " + bad, x.channel(bad, 0), -1);
        }
    }

    private static void promise13Count() {
        ChannelDesk x = deskWith(1, 0);
        for (int bad : new int[] {-1, 4, LOW, HIGH}) {
            due("13: count(" + bad + ")", x.count(bad), -1);
        }
        x.send(0, 0, 1);
        x.receive(1, 0);
        due("13: a value that lay there is no meeting", x.count(2), 0);
        x.send(0, 0, 1);
        x.send(0, 0, 2);
        x.send(2, 0, 3);
        x.add(3, 1, 0, 4);
        x.add(3, 1, 1, 0);
        x.choose(3, 0, false);
        due("13: a choice waits once", x.count(1), 3);
        x.receive(4, 0);
        due("13: a waiting sender is met", x.count(2), 1);
        x.send(4, 1, 5);
        due("13: a waiting choice is met", x.count(2), 2);
        due("13: one waits", x.count(1), 1);
        x.close(0);
        x.send(5, 0, 1);
        x.add(6, 0, 0, 1);
        x.choose(6, 0, false);
        due("13: faults", x.count(3), 3);
        due("13: none waits", x.count(1), 0);
        due("13: meetings", x.count(2), 2);
        due("13: channels", x.count(0), 2);
        for (int r = 0; r < 16; r++) {
            x.receive(r, 1);
        }
        due("13: all wait", x.count(1), 16);
        due("13: the last of them", x.waiting(1, 1, 15), 15);
        due("13: all are woken", x.close(1), 16);
        due("13: none waits again", x.count(1), 0);
    }

    private static void promise14Clear() {
        ChannelDesk x = deskWith(2, 0, 0);
        x.send(0, 0, 7);
        x.receive(1, 0);
        x.send(0, 0, 8);
        x.send(2, 1, 1);
        x.receive(3, 1);
        x.receive(3, 2);
        x.add(4, 1, 0, 1);
        x.choose(4, 0, false);
        x.choose(5, 0, true);
        x.add(6, 0, 1, 0);
        x.close(0);
        x.send(7, 0, 1);
        due("14: three channels", x.clear(), 3);
        dueAsAtFirst("14: cleared", x);
        due("14: none now", x.clear(), 0);
        due("14: numbers from 0", x.make(1), 0);
        due("14: open", x.channel(0, 2), 0);
        due("14: empty", x.channel(0, 0), 0);
        due("14: no value", x.channel(0, 3), 0);
        due("14: no case is left", x.add(6, 0, 1, 0), 1);
        due("14: nobody waits", x.send(0, 0, 1), 1);
    }
}
