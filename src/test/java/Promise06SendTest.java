/** Promise 6: the store becomes a text to be sent on an open channel. */
public final class Promise06SendTest {
    public static void main(String[] args) {
        bringsTheStoreOver();
        emptiesTheStore();
        tellsHowManyBeforeAnythingIsSent();
        isFullAboveFarsMtu();
        isFullWithTwo();
        countsATextThatWentHalfway();
        sendsAnEmptyText();
        refusesWrongNumbers();
        refusesWhatIsNotOpen();
        theFirstExceptionWins();
        Check.end();
    }

    private static CreditLink opened(int credits, int bytes) {
        CreditLink x = Link.opened(50, 23, 1, 40, 25, credits);
        Link.storeOf(x, bytes);
        return x;
    }

    private static void bringsTheStoreOver() {
        Check.sentence("THE STORE is one TEXT more to be sent on an OPEN CHANNEL");
        CreditLink x = opened(9, 40);
        x.send(0, 64);
        Link.storeOf(x, 3);
        x.send(0, 64);
        Link.settle(x);
        Check.same("receive", x.receive(1, 64), 40);
        for (int k = 0; k < 40; k++) {
            Check.same("octet(" + k + ")", x.octet(k), k + 1);
        }
        Check.same("receive", x.receive(1, 64), 3);
        Check.same("receive", x.receive(1, 64), CreditLink.NONE);
    }

    private static void emptiesTheStore() {
        Check.sentence("and empty then");
        CreditLink x = opened(0, 40);
        x.send(0, 64);
        Check.same("octet(0)", x.octet(0), CreditLink.NONE);
        Check.same("erase", x.erase(), 0);
    }

    private static void tellsHowManyBeforeAnythingIsSent() {
        Check.sentence("how many there are with it, before anything is sent");
        CreditLink x = opened(1, 3);
        Check.same("send with a credit", x.send(0, 64), 1);
        Link.channelIs(x, 0, 64, CreditLink.OPEN, 64, 0, 1, 0);
        Check.same("send without one", x.send(0, 64), 1);
        Link.channelIs(x, 0, 64, CreditLink.OPEN, 64, 0, 1, 1);
        Check.same("send without one", x.send(0, 64), 2);
        Link.channelIs(x, 0, 64, CreditLink.OPEN, 64, 0, 1, 2);
    }

    private static void isFullAboveFarsMtu() {
        Check.sentence("or FULL: it is longer than FAR's MTU");
        Check.full("send of 41", () -> opened(2, 41), x -> x.send(0, 64));
        Check.full("send of 120", () -> opened(2, 120), x -> x.send(0, 64));
        Check.same("send of 40", opened(2, 40).send(0, 64), 1);
        Check.same("send of 41 the other way", opened(2, 41).send(1, 64), 1);
        Check.same("send of 50 the other way", opened(2, 50).send(1, 64), 1);
        Check.full("send of 51 the other way", () -> opened(2, 51), x -> x.send(1, 64));
        CreditLink y = Link.lonely(23, 23, 0, 90, 65535, 23, 0);
        Link.storeOf(y, 120);
        Check.same("send of 120", y.send(0, 64), 1);
    }

    private static CreditLink withTwo() {
        CreditLink x = opened(0, 1);
        x.send(0, 64);
        Link.storeOf(x, 2);
        x.send(0, 64);
        Link.storeOf(x, 3);
        return x;
    }

    private static void isFullWithTwo() {
        Check.sentence("or there are two");
        Check.full("send", Promise06SendTest::withTwo, x -> x.send(0, 64));
        CreditLink x = withTwo();
        x.grant(1, 64, 1);
        x.take(0);
        Check.same("send when one has gone", x.send(0, 64), 2);
        x.grant(1, 64, 9);
        Link.settle(x);
        for (int bytes = 1; bytes <= 3; bytes++) {
            Check.same("receive", x.receive(1, 64), bytes);
        }
    }

    private static CreditLink withOneHalfway() {
        CreditLink x = opened(1, 40);
        x.send(0, 64);
        Link.storeOf(x, 2);
        x.send(0, 64);
        Link.storeOf(x, 3);
        return x;
    }

    private static void countsATextThatWentHalfway() {
        Check.full("send", Promise06SendTest::withOneHalfway, x -> x.send(0, 64));
    }

    private static void sendsAnEmptyText() {
        Check.sentence("THE STORE is one TEXT more");
        CreditLink x = opened(2, 0);
        Check.same("send", x.send(0, 64), 1);
        Check.same("take", x.take(1), 6);
        Check.same("receive", x.receive(1, 64), 0);
    }

    private static void refusesWrongNumbers() {
        Check.sentence("IllegalArgument");
        Check.argument("host -1", () -> opened(2, 3), x -> x.send(-1, 64));
        Check.argument("host 2", () -> opened(2, 3), x -> x.send(2, 64));
        Check.argument("channel 63", () -> opened(2, 3), x -> x.send(0, 63));
        Check.argument("channel 68", () -> opened(2, 3), x -> x.send(0, 68));
    }

    private static CreditLink asked() {
        CreditLink x = opened(2, 3);
        x.connect(0, 3, 23, 23, 1);
        return x;
    }

    private static CreditLink leaving() {
        CreditLink x = opened(2, 3);
        x.leave(0, 64);
        return x;
    }

    private static void refusesWhatIsNotOpen() {
        Check.sentence("IllegalState: it is not OPEN");
        Check.state("CLOSED", () -> opened(2, 3), x -> x.send(0, 65));
        Check.state("ASKED", Promise06SendTest::asked, x -> x.send(0, 65));
        Check.state("LEAVING", Promise06SendTest::leaving, x -> x.send(0, 64));
        Check.state("CLOSED with a long store", () -> opened(2, 120), x -> x.send(0, 65));
    }

    private static void theFirstExceptionWins() {
        Check.sentence("where a call lists more than one exception, the first one wins");
        Check.argument("CLOSED with a wrong host", CreditLink::new, x -> x.send(2, 64));
        Check.argument("CLOSED with a wrong channel", CreditLink::new, x -> x.send(0, 68));
    }
}
