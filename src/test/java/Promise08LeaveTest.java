/** Promise 8: an open channel leaves; LeavingTest has what that means. */
public final class Promise08LeaveTest {
    public static void main(String[] args) {
        closesBothSides();
        leavesTheOthersOpen();
        refusesWrongNumbers();
        refusesWhatIsNotOpen();
        theFirstExceptionWins();
        Check.end();
    }

    private static void closesBothSides() {
        Check.sentence("An OPEN CHANNEL LEAVES");
        CreditLink x = Link.opened();
        x.leave(1, 64);
        Link.channelIs(x, 1, 64, CreditLink.LEAVING, 64, 1, 2, 0, 0, 50, 23);
        Link.channelIs(x, 0, 64, CreditLink.OPEN);
        Check.same("take", x.take(0), 12);
        Link.channelIs(x, 0, 64, 0, 0, 0, 0, 0, 0, 0, 0);
        Link.channelIs(x, 1, 64, CreditLink.LEAVING);
        Check.same("take", x.take(1), 12);
        Link.channelIs(x, 1, 64, 0, 0, 0, 0, 0, 0, 0, 0);
        Link.countsAre(x, 0, 4, 0, 0, 2, 0, 0, 0);
        Link.countsAre(x, 1, 4, 0, 0, 2, 0, 0, 0);
    }

    private static void leavesTheOthersOpen() {
        CreditLink x = Link.opened();
        x.connect(0, 3, 23, 23, 0);
        Link.settle(x);
        x.leave(0, 65);
        Link.settle(x);
        Link.channelIs(x, 0, 64, CreditLink.OPEN, 64);
        Link.channelIs(x, 0, 65, CreditLink.CLOSED);
        Link.channelIs(x, 1, 64, CreditLink.OPEN, 64);
        Link.channelIs(x, 1, 65, CreditLink.CLOSED);
    }

    private static void refusesWrongNumbers() {
        Check.sentence("IllegalArgument");
        Check.argument("host -1", Link::opened, x -> x.leave(-1, 64));
        Check.argument("host 2", Link::opened, x -> x.leave(2, 64));
        Check.argument("channel 63", Link::opened, x -> x.leave(0, 63));
        Check.argument("channel 68", Link::opened, x -> x.leave(0, 68));
    }

    private static CreditLink asked() {
        CreditLink x = Link.opened();
        x.connect(0, 3, 23, 23, 1);
        return x;
    }

    private static CreditLink leaving() {
        CreditLink x = Link.opened();
        x.leave(0, 64);
        return x;
    }

    private static void refusesWhatIsNotOpen() {
        Check.sentence("IllegalState: it is not OPEN");
        Check.state("CLOSED", Link::opened, x -> x.leave(0, 65));
        Check.state("ASKED", Promise08LeaveTest::asked, x -> x.leave(0, 65));
        Check.state("LEAVING", Promise08LeaveTest::leaving, x -> x.leave(0, 64));
    }

    private static void theFirstExceptionWins() {
        Check.sentence("where a call lists more than one exception, the first one wins");
        Check.argument("CLOSED with a wrong host", CreditLink::new, x -> x.leave(-1, 64));
        Check.argument("CLOSED with a wrong channel", CreditLink::new, x -> x.leave(0, 63));
    }
}
