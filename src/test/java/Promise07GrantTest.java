/** Promise 7: an open channel gives credits more, and a signal 22 waits. */
public final class Promise07GrantTest {
    public static void main(String[] args) {
        givesMore();
        isFullAbove65535();
        letsTextsGo();
        refusesWrongNumbers();
        refusesWhatIsNotOpen();
        Check.end();
    }

    private static void givesMore() {
        CreditLink x = Link.opened();
        Check.same("grant", x.grant(1, 64, 1), 3);
        Check.same("grant", x.grant(1, 64, 1000), 1003);
        Link.channelIs(x, 1, 64, CreditLink.OPEN, 64, 1, 1003);
        Link.channelIs(x, 0, 64, CreditLink.OPEN, 64, 2, 1);
        Check.same("take", x.take(0), 12);
        Link.channelIs(x, 0, 64, CreditLink.OPEN, 64, 3, 1);
        Check.same("take", x.take(0), 12);
        Link.channelIs(x, 0, 64, CreditLink.OPEN, 64, 1003, 1);
    }

    private static void isFullAbove65535() {
        CreditLink x = Link.opened(23, 23, 1000, 23, 23, 0);
        for (int i = 2; i <= 65; i++) {
            Check.same("grant", x.grant(0, 64, 1000), 1000 * i);
            x.lose(1);
        }
        Check.same("grant", x.grant(0, 64, 535), 65535);
        String before = Link.picture(x);
        Check.same("grant", x.grant(0, 64, 1), CreditLink.FULL);
        Check.same("grant", x.grant(0, 64, 1000), CreditLink.FULL);
        Check.same("the state after FULL", Link.picture(x), before);
    }

    private static void letsTextsGo() {
        CreditLink x = Link.opened(50, 23, 1, 40, 25, 0);
        Link.storeOf(x, 7);
        x.send(0, 64);
        Check.same("take", x.take(1), CreditLink.NONE);
        x.grant(1, 64, 2);
        x.take(0);
        Check.same("take", x.take(1), 13);
        Link.channelIs(x, 0, 64, CreditLink.OPEN, 64, 1, 1, 0);
        Link.channelIs(x, 1, 64, CreditLink.OPEN, 64, 1, 1, 0, 1);
    }

    private static void refusesWrongNumbers() {
        CreditLink x = Link.opened();
        Check.argument("host -1", x, () -> x.grant(-1, 64, 1));
        Check.argument("host 2", x, () -> x.grant(2, 64, 1));
        Check.argument("channel 63", x, () -> x.grant(0, 63, 1));
        Check.argument("channel 68", x, () -> x.grant(0, 68, 1));
        Check.argument("credits 0", x, () -> x.grant(0, 64, 0));
        Check.argument("credits -1", x, () -> x.grant(0, 64, -1));
        Check.argument("credits 1001", x, () -> x.grant(0, 64, 1001));
        Check.argument("a closed one with wrong credits", x, () -> x.grant(0, 65, 0));
    }

    private static void refusesWhatIsNotOpen() {
        CreditLink x = Link.opened();
        Check.state("CLOSED", x, () -> x.grant(0, 65, 1));
        x.connect(0, 3, 23, 23, 1);
        Check.state("ASKED", x, () -> x.grant(0, 65, 1));
        x.leave(0, 64);
        Check.state("LEAVING", x, () -> x.grant(0, 64, 1));
    }
}
