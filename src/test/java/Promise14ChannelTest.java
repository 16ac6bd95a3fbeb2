/** Promise 14: what a channel tells of itself. */
public final class Promise14ChannelTest {
    public static void main(String[] args) {
        tellsEachNumber();
        tellsNothingWhereThereIsNone();
        refusesWrongNumbers();
        Check.end();
    }

    private static void tellsEachNumber() {
        CreditLink x = Link.lonely(90, 80, 7, 100, 500, 600, 40000);
        Link.channelIs(x, 0, 64, CreditLink.OPEN, 100, 40000, 7, 0, 0, 500, 600);
        Link.unit(x, 0, 64, 1, 0, 5);
        Link.channelIs(x, 0, 64, CreditLink.OPEN, 100, 40000, 6, 0, 1, 500, 600);
        Link.storeOf(x, 120);
        x.send(0, 64);
        Link.channelIs(x, 0, 64, CreditLink.OPEN, 100, 39999, 6, 0, 1, 500, 600);
        x.send(0, 64);
        Link.channelIs(x, 0, 64, CreditLink.OPEN, 100, 39999, 6, 1, 1, 500, 600);
        x.leave(0, 64);
        Link.channelIs(x, 0, 64, CreditLink.LEAVING, 100, 39999, 6, 0, 1, 500, 600);
        Link.signal(x, 0, Link.LEFT, 1, 100, 64);
        Link.channelIs(x, 0, 64, CreditLink.CLOSED, 0, 0, 0, 0, 1, 0, 0);
    }

    private static void tellsNothingWhereThereIsNone() {
        CreditLink x = new CreditLink();
        Link.channelIs(x, 1, 67, 0, 0, 0, 0, 0, 0, 0, 0);
        x.connect(1, 1, 55, 66, 77);
        Link.channelIs(x, 1, 64, CreditLink.ASKED, 0, 0, 77, 0, 0, 0, 0);
        Link.channelIs(x, 0, 64, 0, 0, 0, 0, 0, 0, 0, 0);
        Link.signal(x, 1, Link.ANSWER, 1, 0, 0, 0, 9, 2);
        Link.channelIs(x, 1, 64, 0, 0, 0, 0, 0, 0, 0, 0);
    }

    private static void refusesWrongNumbers() {
        CreditLink x = Link.opened();
        Check.argument("host -1", x, () -> x.channel(-1, 64, 0));
        Check.argument("host 2", x, () -> x.channel(2, 64, 0));
        Check.argument("channel 63", x, () -> x.channel(0, 63, 0));
        Check.argument("channel 68", x, () -> x.channel(0, 68, 0));
        Check.argument("what -1", x, () -> x.channel(0, 64, -1));
        Check.argument("what 8", x, () -> x.channel(0, 64, 8));
    }
}
