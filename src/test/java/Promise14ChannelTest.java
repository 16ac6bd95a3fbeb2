/** Promise 14: what a channel tells of itself. */
public final class Promise14ChannelTest {
    public static void main(String[] args) {
        tellsEachNumber();
        aClosedOneHasNone();
        anAskedOneHasNoFar();
        aLeavingOneHasFar();
        aTextIsCountedUntilItIsGone();
        countsUpToTwoAndFour();
        tellsNumbersUpTo65535();
        refusesAHostOrChannelThatIsNone();
        refusesAWhatThatIsNone();
        Check.end();
    }

    private static void tellsEachNumber() {
        Check.sentence("what = 0 CLOSED, ASKED, OPEN or LEAVING, 1 FAR, 2 CREDITS, 3 GIVEN");
        CreditLink x = Link.lonely(90, 80, 7, 100, 500, 600, 40000);
        Link.channelIs(x, 0, 64, CreditLink.OPEN, 100, 40000, 7, 0, 0, 500, 600);
        Link.unit(x, 0, 64, 1, 0, 5);
        Link.channelIs(x, 0, 64, CreditLink.OPEN, 100, 40000, 6, 0, 1, 500, 600);
        Link.storeOf(x, 120);
        x.send(0, 64);
        Link.channelIs(x, 0, 64, CreditLink.OPEN, 100, 39999, 6, 0, 1, 500, 600);
        x.send(0, 64);
        Link.channelIs(x, 0, 64, CreditLink.OPEN, 100, 39999, 6, 1, 1, 500, 600);
        Link.channelIs(x, 0, 65, 0, 0, 0, 0, 0, 0, 0, 0);
        Link.channelIs(x, 1, 64, 0, 0, 0, 0, 0, 0, 0, 0);
    }

    private static void aClosedOneHasNone() {
        Check.sentence("(each 0 where it has none)");
        CreditLink x = new CreditLink();
        Link.channelIs(x, 1, 67, 0, 0, 0, 0, 0, 0, 0, 0);
        x.connect(1, 1, 55, 66, 77);
        Link.signal(x, 1, Link.ANSWER, 1, 0, 0, 0, 9, 2);
        Link.channelIs(x, 1, 64, 0, 0, 0, 0, 0, 0, 0, 0);
        CreditLink y = Link.opened();
        y.leave(0, 64);
        Link.settle(y);
        Link.channelIs(y, 0, 64, 0, 0, 0, 0, 0, 0, 0, 0);
        Link.channelIs(y, 1, 64, 0, 0, 0, 0, 0, 0, 0, 0);
    }

    private static void anAskedOneHasNoFar() {
        Check.sentence("One that is not CLOSED has an own MTU, MPS, and GIVEN");
        CreditLink x = new CreditLink();
        x.connect(1, 1, 55, 66, 77);
        Link.channelIs(x, 1, 64, CreditLink.ASKED, 0, 0, 77, 0, 0, 0, 0);
        CreditLink y = Link.opened();
        y.leave(0, 64);
        Link.settle(y);
        y.connect(0, 9, 55, 66, 77);
        Link.channelIs(y, 0, 64, CreditLink.ASKED, 0, 0, 77, 0, 0, 0, 0);
    }

    private static void aLeavingOneHasFar() {
        Check.sentence("OPEN or LEAVING it has FAR, .. with FAR's MTU, MPS, and CREDITS");
        CreditLink x = Link.lonely(90, 80, 7, 100, 500, 600, 40000);
        x.leave(0, 64);
        Link.channelIs(x, 0, 64, CreditLink.LEAVING, 100, 40000, 7, 0, 0, 500, 600);
        Link.signal(x, 0, Link.LEFT, 1, 100, 64);
        Link.channelIs(x, 0, 64, CreditLink.CLOSED, 0, 0, 0, 0, 0, 0, 0);
    }

    private static void aTextIsCountedUntilItIsGone() {
        Check.sentence("4 TEXTS to be sent");
        CreditLink x = Link.opened(23, 23, 0, 100, 23, 1);
        Link.storeOf(x, 30);
        x.send(0, 64);
        Link.channelIs(x, 0, 64, CreditLink.OPEN, 64, 0, 0, 1);
        x.grant(1, 64, 1);
        x.take(0);
        Link.channelIs(x, 0, 64, CreditLink.OPEN, 64, 0, 0, 0);
    }

    private static void countsUpToTwoAndFour() {
        Check.sentence("4 TEXTS to be sent, 5 TEXTS that are RECEIVED");
        CreditLink x = Link.lonely(23, 23, 9, 90, 23, 23, 0);
        for (int i = 1; i <= 2; i++) {
            x.send(0, 64);
            Check.same("TEXTS to be sent", x.channel(0, 64, Link.TO_SEND), i);
        }
        for (int i = 1; i <= 4; i++) {
            Link.unit(x, 0, 64, 0, 0);
            Check.same("TEXTS that are RECEIVED", x.channel(0, 64, Link.RECEIVED), i);
        }
    }

    private static void tellsNumbersUpTo65535() {
        Check.sentence("Numbers of two bytes have the lower one first");
        CreditLink x = Link.lonely(23, 23, 0, 127, 65535, 65535, 65535);
        Link.channelIs(x, 0, 64, CreditLink.OPEN, 127, 65535, 0, 0, 0, 65535, 65535);
    }

    private static void refusesAHostOrChannelThatIsNone() {
        Check.sentence("Of a CHANNEL 64 .. 67");
        Check.argument("host -1", Link::opened, x -> x.channel(-1, 64, 0));
        Check.argument("host 2", Link::opened, x -> x.channel(2, 64, 0));
        Check.argument("channel 63", Link::opened, x -> x.channel(0, 63, 0));
        Check.argument("channel 68", Link::opened, x -> x.channel(0, 68, 0));
    }

    private static void refusesAWhatThatIsNone() {
        Check.sentence("IllegalArgument is thrown where a number is none of those told here");
        Check.argument("what -1", Link::opened, x -> x.channel(0, 64, -1));
        Check.argument("what 8", Link::opened, x -> x.channel(0, 64, 8));
    }
}
