/** Promise 8: an open channel leaves. */
public final class Promise08LeaveTest {
    public static void main(String[] args) {
        closesBothSides();
        forgetsWhatWasOnItsWay();
        forgetsWhereATextHadCome();
        finishesTheUnitThatWasBegun();
        leavesFromBothSidesAtOnce();
        refusesWrongNumbers();
        refusesWhatIsNotOpen();
        Check.end();
    }

    private static void closesBothSides() {
        CreditLink x = Link.opened();
        x.leave(1, 64);
        Link.channelIs(x, 1, 64, CreditLink.LEAVING, 64, 1, 2, 0, 0, 50, 23);
        Link.channelIs(x, 0, 64, CreditLink.OPEN);
        Check.same("take", x.take(0), 12);
        Link.channelIs(x, 0, 64, 0, 0, 0, 0, 0, 0, 0, 0);
        Link.channelIs(x, 1, 64, CreditLink.LEAVING);
        Check.same("take", x.take(1), 12);
        Link.channelIs(x, 1, 64, 0, 0, 0, 0, 0, 0, 0, 0);
        Link.countsAre(x, 0, 4, 0, 0, 2, 0, 0, 0);
        Link.countsAre(x, 1, 4, 0, 0, 2, 0, 0, 0);
    }

    private static void forgetsWhatWasOnItsWay() {
        CreditLink x = Link.opened(50, 23, 3, 40, 25, 0);
        Link.storeOf(x, 5);
        x.send(0, 64);
        Link.unit(x, 0, 64, 9, 0, 1, 2);
        Link.unit(x, 0, 64, 2, 0, 1, 2, 3);
        Link.channelIs(x, 0, 64, CreditLink.OPEN, 64, 0, 1, 1, 0);
        Link.unit(x, 0, 64, 4, 5, 6, 7);
        Link.channelIs(x, 0, 64, CreditLink.LEAVING, 64, 0, 0, 0, 0);
        CreditLink y = Link.opened(50, 23, 3, 40, 25, 0);
        Link.unit(y, 0, 64, 1, 0, 8);
        y.leave(0, 64);
        Link.channelIs(y, 0, 64, CreditLink.LEAVING, 64, 0, 2, 0, 1);
        Link.settle(y);
        Check.same("receive on a closed one", y.receive(0, 64), 1);
        Check.same("octet(0)", y.octet(0), 8);
    }

    /** A text that went halfway before the channel left does not shorten the next one. */
    private static void forgetsWhereATextHadCome() {
        CreditLink x = Link.opened(50, 23, 1, 100, 23, 1);
        Link.storeOf(x, 60);
        x.send(0, 64);
        Link.channelIs(x, 0, 64, CreditLink.OPEN, 64, 0, 1, 1);
        x.leave(0, 64);
        Link.settle(x);
        x.connect(0, 3, 50, 23, 1);
        Link.settle(x);
        Link.storeOf(x, 10);
        x.send(0, 64);
        Link.settle(x);
        Check.same("receive", x.receive(1, 64), 10);
        Check.same("octet(0)", x.octet(0), 1);
        Check.same("octet(9)", x.octet(9), 10);
    }

    private static void finishesTheUnitThatWasBegun() {
        CreditLink x = Link.opened(23, 23, 0, 100, 100, 5);
        x.grant(0, 64, 1);
        x.grant(0, 64, 1);
        Link.storeOf(x, 98);
        x.send(0, 64);
        Link.storeOf(x, 20);
        x.send(0, 64);
        Link.countsAre(x, 0, 0, 0, 0);
        Link.channelIs(x, 0, 64, CreditLink.OPEN, 64, 4, 2, 1);
        x.leave(0, 64);
        Link.channelIs(x, 0, 64, CreditLink.LEAVING, 64, 4, 2, 0);
        Link.countsAre(x, 0, 0, 0, 1);
        int[] due = {12, 12, 27, 27, 27, 23};
        for (int i = 0; i < due.length; i++) {
            Check.same("take", x.take(1), due[i]);
        }
        Check.same("a text is whole", x.channel(1, 64, Link.RECEIVED), 1);
        Check.same("take", x.take(1), 12);
        Link.channelIs(x, 1, 64, CreditLink.CLOSED, 0, 0, 0, 0, 1);
        Check.same("take", x.take(1), CreditLink.NONE);
    }

    private static void leavesFromBothSidesAtOnce() {
        CreditLink x = Link.opened();
        x.leave(0, 64);
        x.leave(1, 64);
        x.take(0);
        x.take(1);
        Link.channelIs(x, 0, 64, CreditLink.CLOSED);
        Link.channelIs(x, 1, 64, CreditLink.CLOSED);
        Link.settle(x);
        Check.same("REJECTED", x.count(0, Link.REJECTED) + x.count(1, Link.REJECTED), 0);
    }

    private static void refusesWrongNumbers() {
        CreditLink x = Link.opened();
        Check.argument("host -1", x, () -> x.leave(-1, 64));
        Check.argument("host 2", x, () -> x.leave(2, 64));
        Check.argument("channel 63", x, () -> x.leave(0, 63));
        Check.argument("channel 68", x, () -> x.leave(0, 68));
    }

    private static void refusesWhatIsNotOpen() {
        CreditLink x = Link.opened();
        Check.state("CLOSED", x, () -> x.leave(0, 65));
        x.connect(0, 3, 23, 23, 1);
        Check.state("ASKED", x, () -> x.leave(0, 65));
        x.leave(0, 64);
        Check.state("LEAVING", x, () -> x.leave(0, 64));
    }
}
