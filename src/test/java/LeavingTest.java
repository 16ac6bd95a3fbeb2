/** The SIGNALS 6, 7 and 1, and what LEAVING is: each sentence at its edges. */
public final class LeavingTest {
    public static void main(String[] args) {
        leaveClosesAnOpenOne();
        leaveClosesALeavingOne();
        leaveIsAnsweredBy7();
        leaveForgetsTextsToBeSent();
        leaveForgetsWhatWasGathered();
        leaveOfNoneIsRejected();
        leaveOfAnAskedOneIsRejected();
        leftClosesALeavingOne();
        leftOfAnotherOneDoesNothing();
        rejectClosesAnAskedOne();
        rejectClosesALeavingOne();
        rejectOfAnotherOneDoesNothing();
        leavingBeginsWithASignal6();
        leavingForgetsTextsToBeSent();
        leavingForgetsWhatWasGathered();
        leavingForgetsWhereATextHadCome();
        leavingFinishesTheUnitThatWasBegun();
        receivedOnesStay();
        receivedOnesGoWhenItIsAsked();
        bothSidesMayLeaveAtOnce();
        Check.end();
    }

    private static CreditLink open() {
        return Link.lonely(40, 40, 5, 80, 40, 40, 0);
    }

    private static CreditLink leaving() {
        CreditLink x = open();
        x.leave(0, 64);
        Link.loseAll(x, 1);
        return x;
    }

    private static CreditLink asked() {
        CreditLink x = new CreditLink();
        x.connect(0, 1, 30, 31, 32);
        Link.loseAll(x, 1);
        return x;
    }

    private static void isClosed(CreditLink x) {
        Link.channelIs(x, 0, 64, CreditLink.CLOSED, 0, 0, 0, 0, 0, 0, 0);
        Check.same("REJECTED", x.count(0, Link.REJECTED), 0);
    }

    private static void leaveClosesAnOpenOne() {
        Check.sentence("a CHANNEL 64 .. 67 that is OPEN or LEAVING with that FAR is CLOSED");
        CreditLink x = open();
        Link.signal(x, 0, Link.LEAVE, 77, 64, 80);
        isClosed(x);
        CreditLink y = new CreditLink();
        y.service(0, 1, 23, 23, 0);
        for (int i = 0; i < 4; i++) {
            Link.signal(y, 0, Link.REQUEST, 7, 1, 70 + i, 23, 23, 0);
        }
        Link.signal(y, 0, Link.LEAVE, 7, 67, 73);
        Link.channelIs(y, 0, 67, CreditLink.CLOSED);
        Link.channelIs(y, 0, 66, CreditLink.OPEN, 72);
    }

    private static void leaveClosesALeavingOne() {
        CreditLink x = leaving();
        Link.signal(x, 0, Link.LEAVE, 77, 64, 80);
        isClosed(x);
    }

    /** A signal 7 with the same bytes closes the other side, which left with FAR and own number. */
    private static void leaveIsAnsweredBy7() {
        Check.sentence("and 7 (4) with the same bytes is the answer");
        CreditLink x = new CreditLink();
        x.service(1, 3, 40, 25, 2);
        x.connect(1, 1, 23, 23, 0);
        x.connect(0, 3, 50, 23, 1);
        x.take(1);
        Link.takeAll(x, 0);
        Link.channelIs(x, 0, 64, CreditLink.OPEN, 65);
        Link.channelIs(x, 1, 65, CreditLink.OPEN, 64);
        x.leave(0, 64);
        Link.takeAll(x, 1);
        Link.channelIs(x, 1, 65, CreditLink.CLOSED);
        Link.channelIs(x, 0, 64, CreditLink.LEAVING, 65);
        Check.same("a signal 7", x.take(0), 12);
        Link.channelIs(x, 0, 64, CreditLink.CLOSED);
    }

    private static void leaveForgetsTextsToBeSent() {
        Check.sentence("(TEXTS to be sent, and what was GATHERED of one, are gone)");
        CreditLink x = open();
        Link.storeOf(x, 5);
        x.send(0, 64);
        Link.channelIs(x, 0, 64, CreditLink.OPEN, 80, 0, 5, 1);
        Link.signal(x, 0, Link.LEAVE, 77, 64, 80);
        isClosed(x);
        Link.signal(x, 0, Link.REQUEST, 78, 1, 80, 40, 40, 9);
        Link.channelIs(x, 0, 64, CreditLink.OPEN, 80, 9, 5, 0);
        Check.same("packets: the answers alone", Link.takeAll(x, 1), 2);
    }

    private static void leaveForgetsWhatWasGathered() {
        CreditLink x = open();
        Link.unit(x, 0, 64, 9, 0, 1);
        Link.signal(x, 0, Link.LEAVE, 77, 64, 80);
        Link.signal(x, 0, Link.REQUEST, 78, 1, 80, 40, 40, 9);
        Link.unit(x, 0, 64, 1, 0, 8);
        Check.same("a new text begins", x.receive(0, 64), 1);
        Check.same("octet(0)", x.octet(0), 8);
    }

    private static void leaveOfNoneIsRejected() {
        Check.sentence("if there is none such: REJECTED for 2, with these four bytes");
        int[][] wrong = {
            {64, 79}, {64, 81}, {65, 80}, {80, 64}, {63, 80}, {68, 80}, {0, 0}, {65535, 80},
            {64, 0}, {65, 0}, {67, 0}, {64 + 256, 80}, {64, 80 + 256}
        };
        for (int[] numbers : wrong) {
            CreditLink x = open();
            Link.signal(x, 0, Link.LEAVE, 77, numbers);
            Link.channelIs(x, 0, 64, CreditLink.OPEN, 80);
            Check.same("REJECTED", x.count(0, Link.REJECTED), 1);
            Check.same("a signal 1 of six bytes goes", x.take(1), 14);
        }
    }

    private static void leaveOfAnAskedOneIsRejected() {
        int[] fars = {0, 64};
        for (int far : fars) {
            CreditLink x = asked();
            Link.signal(x, 0, Link.LEAVE, 77, 64, far);
            Link.channelIs(x, 0, 64, CreditLink.ASKED);
            Check.same("REJECTED", x.count(0, Link.REJECTED), 1);
        }
    }

    private static void leftClosesALeavingOne() {
        Check.sentence("7 (4) LEFT: FAR, own number: the CHANNEL, if it is LEAVING with that FAR, is CLOSED");
        CreditLink x = leaving();
        Link.signal(x, 0, Link.LEFT, 200, 80, 64);
        isClosed(x);
    }

    private static void leftOfAnotherOneDoesNothing() {
        int[][] wrong = {{79, 64}, {81, 64}, {80, 65}, {80, 63}, {80, 68}, {64, 80}, {0, 64}, {80, 64 + 256}};
        for (int[] numbers : wrong) {
            CreditLink x = leaving();
            Link.signal(x, 0, Link.LEFT, 1, numbers);
            Link.channelIs(x, 0, 64, CreditLink.LEAVING, 80);
            Link.countsAre(x, 0, 4, 0, 0, 2, 0, 0, 0);
        }
        CreditLink y = open();
        Link.signal(y, 0, Link.LEFT, 1, 80, 64);
        Link.channelIs(y, 0, 64, CreditLink.OPEN, 80);
        CreditLink z = asked();
        Link.signal(z, 0, Link.LEFT, 1, 0, 64);
        Link.channelIs(z, 0, 64, CreditLink.ASKED);
    }

    private static void rejectClosesAnAskedOne() {
        Check.sentence("1 (2 or 6) REJECT: the CHANNEL that is ASKED, or LEAVING, by that id is CLOSED");
        CreditLink x = asked();
        Link.signal(x, 0, Link.REJECT, 1, 0);
        isClosed(x);
        CreditLink y = asked();
        Link.signal(y, 0, Link.REJECT, 1, 2, 64, 64);
        isClosed(y);
    }

    private static void rejectClosesALeavingOne() {
        CreditLink x = leaving();
        Link.signal(x, 0, Link.REJECT, 1, 0);
        isClosed(x);
        CreditLink y = leaving();
        Link.signal(y, 0, Link.REJECT, 1, 65535, 1, 2);
        isClosed(y);
    }

    private static void rejectOfAnotherOneDoesNothing() {
        CreditLink x = asked();
        Link.signal(x, 0, Link.REJECT, 2, 0);
        Link.signal(x, 0, Link.REJECT, 255, 0);
        Link.channelIs(x, 0, 64, CreditLink.ASKED);
        CreditLink y = leaving();
        Link.signal(y, 0, Link.REJECT, 2, 0);
        Link.channelIs(y, 0, 64, CreditLink.LEAVING);
        CreditLink z = asked();
        Link.signal(z, 0, Link.ANSWER, 1, 70, 40, 41, 42, 0);
        Link.signal(z, 0, Link.REJECT, 1, 0);
        Link.channelIs(z, 0, 64, CreditLink.OPEN, 70);
        z.leave(0, 64);
        Link.signal(z, 0, Link.REJECT, 1, 0);
        Link.channelIs(z, 0, 64, CreditLink.LEAVING, 70);
        Link.countsAre(z, 0, 3, 0, 0, 3, 0, 0, 0);
    }

    private static void leavingBeginsWithASignal6() {
        Check.sentence("LEAVING begins with a SIGNAL 6 (FAR, own number, the other way round than told above)");
        CreditLink x = Link.opened();
        x.leave(1, 64);
        Link.channelIs(x, 1, 64, CreditLink.LEAVING, 64, 1, 2, 0, 0, 50, 23);
        Link.countsAre(x, 1, 3, 0, 0);
        Check.same("a signal 6", x.take(0), 12);
        Link.channelIs(x, 0, 64, CreditLink.CLOSED);
        Check.same("a signal 7", x.take(1), 12);
        Link.channelIs(x, 1, 64, CreditLink.CLOSED);
    }

    private static void leavingForgetsTextsToBeSent() {
        Check.sentence("TEXTS to be sent, and what was GATHERED of one, are gone");
        CreditLink x = open();
        Link.storeOf(x, 5);
        x.send(0, 64);
        x.send(0, 64);
        Link.channelIs(x, 0, 64, CreditLink.OPEN, 80, 0, 5, 2);
        x.leave(0, 64);
        Link.channelIs(x, 0, 64, CreditLink.LEAVING, 80, 0, 5, 0);
        CreditLink y = open();
        y.send(0, 64);
        Link.unit(y, 0, 64);
        Link.channelIs(y, 0, 64, CreditLink.LEAVING, 80, 0, 5, 0);
    }

    private static void leavingForgetsWhatWasGathered() {
        CreditLink x = open();
        Link.unit(x, 0, 64, 9, 0, 1);
        x.leave(0, 64);
        Link.signal(x, 0, Link.LEFT, 1, 80, 64);
        Link.signal(x, 0, Link.REQUEST, 78, 1, 80, 40, 40, 9);
        Link.unit(x, 0, 64, 1, 0, 8);
        Check.same("a new text begins", x.receive(0, 64), 1);
        Check.same("octet(0)", x.octet(0), 8);
    }

    /** A text that went halfway before the channel left does not shorten the next one. */
    private static void leavingForgetsWhereATextHadCome() {
        CreditLink x = Link.opened(50, 23, 1, 100, 23, 1);
        Link.storeOf(x, 60);
        x.send(0, 64);
        Link.channelIs(x, 0, 64, CreditLink.OPEN, 64, 0, 1, 1);
        x.leave(0, 64);
        Link.settle(x);
        x.connect(0, 3, 50, 23, 1);
        Link.settle(x);
        Link.storeOf(x, 10);
        x.send(0, 64);
        Link.settle(x);
        Check.same("receive", x.receive(1, 64), 10);
        Check.same("octet(0)", x.octet(0), 1);
        Check.same("octet(9)", x.octet(9), 10);
    }

    private static void leavingFinishesTheUnitThatWasBegun() {
        Check.sentence("what is left of the UNIT that was begun");
        CreditLink x = Link.opened(23, 23, 0, 100, 100, 5);
        x.grant(0, 64, 1);
        x.grant(0, 64, 1);
        Link.storeOf(x, 98);
        x.send(0, 64);
        Link.storeOf(x, 20);
        x.send(0, 64);
        Link.channelIs(x, 0, 64, CreditLink.OPEN, 64, 4, 2, 1);
        x.leave(0, 64);
        Link.channelIs(x, 0, 64, CreditLink.LEAVING, 64, 4, 2, 0);
        Link.countsAre(x, 0, 0, 0, 1);
        int[] due = {12, 12, 27, 27, 27, 23};
        for (int i = 0; i < due.length; i++) {
            Check.same("take", x.take(1), due[i]);
        }
        Check.same("a text is whole", x.channel(1, 64, Link.RECEIVED), 1);
        Check.same("take", x.take(1), 12);
        Link.channelIs(x, 1, 64, CreditLink.CLOSED, 0, 0, 0, 0, 1);
        Check.same("take", x.take(1), CreditLink.NONE);
    }

    private static void receivedOnesStay() {
        Check.sentence("RECEIVED ones stay until the CHANNEL is ASKED or OPEN again");
        CreditLink x = open();
        Link.unit(x, 0, 64, 1, 0, 8);
        Link.unit(x, 0, 64, 1, 0, 9);
        x.leave(0, 64);
        Link.channelIs(x, 0, 64, CreditLink.LEAVING, 80, 0, 3, 0, 2);
        Check.same("receive on a LEAVING one", x.receive(0, 64), 1);
        Check.same("octet(0)", x.octet(0), 8);
        Link.signal(x, 0, Link.LEFT, 1, 80, 64);
        Link.channelIs(x, 0, 64, CreditLink.CLOSED, 0, 0, 0, 0, 1);
        Check.same("receive on a CLOSED one", x.receive(0, 64), 1);
        Check.same("octet(0)", x.octet(0), 9);
        Check.same("receive", x.receive(0, 64), CreditLink.NONE);
    }

    private static void receivedOnesGoWhenItIsAsked() {
        CreditLink x = open();
        Link.unit(x, 0, 64, 1, 0, 8);
        Link.signal(x, 0, Link.LEAVE, 77, 64, 80);
        Link.channelIs(x, 0, 64, CreditLink.CLOSED, 0, 0, 0, 0, 1);
        x.connect(0, 1, 23, 23, 0);
        Link.channelIs(x, 0, 64, CreditLink.ASKED, 0, 0, 0, 0, 0);
        Check.same("receive", x.receive(0, 64), CreditLink.NONE);
    }

    private static void bothSidesMayLeaveAtOnce() {
        Check.sentence("a CHANNEL 64 .. 67 that is OPEN or LEAVING with that FAR is CLOSED");
        CreditLink x = Link.opened();
        x.leave(0, 64);
        x.leave(1, 64);
        x.take(0);
        x.take(1);
        Link.channelIs(x, 0, 64, CreditLink.CLOSED);
        Link.channelIs(x, 1, 64, CreditLink.CLOSED);
        Link.settle(x);
        Link.channelIs(x, 0, 64, CreditLink.CLOSED);
        Link.channelIs(x, 1, 64, CreditLink.CLOSED);
        Check.same("REJECTED", x.count(0, Link.REJECTED) + x.count(1, Link.REJECTED), 0);
    }
}
