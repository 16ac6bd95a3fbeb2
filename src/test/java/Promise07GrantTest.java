/** Promise 7: an open channel gives credits more, and a signal 22 waits. */
public final class Promise07GrantTest {
    public static void main(String[] args) {
        givesFrom1To1000();
        tellsGiven();
        aSignal22Waits();
        letsTextsGo();
        holds65535();
        isFullAbove65535();
        refusesWrongNumbers();
        refusesCreditsBelow1OrAbove1000();
        refusesWhatIsNotOpen();
        theFirstExceptionWins();
        Check.end();
    }

    private static void givesFrom1To1000() {
        Check.sentence("An OPEN CHANNEL gives 1 .. 1000 credits more");
        int[] edges = {1, 2, 255, 256, 999, 1000};
        for (int credits : edges) {
            CreditLink x = Link.opened();
            Check.same("grant", x.grant(1, 64, credits), 2 + credits);
            Link.channelIs(x, 0, 64, CreditLink.OPEN, 64, 2, 1);
            Check.same("take", x.take(0), 12);
            Link.channelIs(x, 0, 64, CreditLink.OPEN, 64, 2 + credits, 1);
        }
    }

    private static void tellsGiven() {
        Check.sentence("GIVEN");
        CreditLink x = Link.opened();
        Check.same("grant", x.grant(1, 64, 1), 3);
        Check.same("grant", x.grant(1, 64, 1000), 1003);
        Link.channelIs(x, 1, 64, CreditLink.OPEN, 64, 1, 1003);
        Link.channelIs(x, 0, 64, CreditLink.OPEN, 64, 2, 1);
    }

    /** The request went to channel 65, so that an own number is another one than FAR's. */
    private static void aSignal22Waits() {
        Check.sentence("and a SIGNAL 22 (own number, how many) waits");
        CreditLink x = new CreditLink();
        x.service(1, 3, 40, 25, 2);
        x.connect(1, 1, 23, 23, 0);
        x.connect(0, 3, 50, 23, 1);
        x.take(1);
        Link.settle(x);
        Link.channelIs(x, 0, 64, CreditLink.OPEN, 65, 2);
        Link.block(x, 0);
        x.grant(1, 65, 7);
        Link.countsAre(x, 1, 4, 0, 1);
        x.take(0);
        Link.countsAre(x, 1, 3, 0, 0);
        Link.takeAll(x, 0);
        Link.channelIs(x, 0, 64, CreditLink.OPEN, 65, 9);
    }

    private static void letsTextsGo() {
        Check.sentence("texts in segments that go only as long as the other side has given credits");
        CreditLink x = Link.opened(50, 23, 1, 40, 25, 0);
        Link.storeOf(x, 7);
        x.send(0, 64);
        Check.same("take", x.take(1), CreditLink.NONE);
        x.grant(1, 64, 2);
        x.take(0);
        Check.same("take", x.take(1), 13);
        Link.channelIs(x, 0, 64, CreditLink.OPEN, 64, 1, 1, 0);
        Link.channelIs(x, 1, 64, CreditLink.OPEN, 64, 1, 1, 0, 1);
    }

    private static CreditLink given(int credits) {
        CreditLink x = Link.opened(23, 23, 1000, 23, 23, 0);
        for (int given = 1000; given < credits; given += 1000) {
            x.grant(0, 64, Math.min(1000, credits - given));
        }
        return x;
    }

    private static void holds65535() {
        Check.sentence("or FULL: GIVEN would be more than 65535");
        Check.same("grant", given(64535).grant(0, 64, 1000), 65535);
        Check.same("grant", given(65534).grant(0, 64, 1), 65535);
    }

    private static void isFullAbove65535() {
        Check.full("grant", () -> given(65535), x -> x.grant(0, 64, 1));
        Check.full("grant", () -> given(65535), x -> x.grant(0, 64, 1000));
        Check.full("grant", () -> given(64536), x -> x.grant(0, 64, 1000));
    }

    private static void refusesWrongNumbers() {
        Check.sentence("IllegalArgument");
        Check.argument("host -1", Link::opened, x -> x.grant(-1, 64, 1));
        Check.argument("host 2", Link::opened, x -> x.grant(2, 64, 1));
        Check.argument("channel 63", Link::opened, x -> x.grant(0, 63, 1));
        Check.argument("channel 68", Link::opened, x -> x.grant(0, 68, 1));
    }

    private static void refusesCreditsBelow1OrAbove1000() {
        Check.sentence("gives 1 .. 1000 credits more");
        Check.argument("credits 0", Link::opened, x -> x.grant(0, 64, 0));
        Check.argument("credits -1", Link::opened, x -> x.grant(0, 64, -1));
        Check.argument("credits 1001", Link::opened, x -> x.grant(0, 64, 1001));
    }

    private static CreditLink asked() {
        CreditLink x = Link.opened();
        x.connect(0, 3, 23, 23, 1);
        return x;
    }

    private static CreditLink leaving() {
        CreditLink x = Link.opened();
        x.leave(0, 64);
        return x;
    }

    private static void refusesWhatIsNotOpen() {
        Check.sentence("IllegalState: it is not OPEN");
        Check.state("CLOSED", Link::opened, x -> x.grant(0, 65, 1));
        Check.state("ASKED", Promise07GrantTest::asked, x -> x.grant(0, 65, 1));
        Check.state("LEAVING", Promise07GrantTest::leaving, x -> x.grant(0, 64, 1));
    }

    private static void theFirstExceptionWins() {
        Check.sentence("where a call lists more than one exception, the first one wins");
        Check.argument("CLOSED with 0 credits", Link::opened, x -> x.grant(0, 65, 0));
        Check.argument("CLOSED with 1001 credits", Link::opened, x -> x.grant(0, 65, 1001));
        Check.argument("CLOSED with a wrong host", CreditLink::new, x -> x.grant(2, 64, 1));
    }
}
