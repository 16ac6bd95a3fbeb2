/** Promise 1: channels closed, no services, nothing on the ways, an empty store. */
public final class Promise01NewObjectTest {
    public static void main(String[] args) {
        constants();
        channelsAreClosed();
        thereIsNoService();
        nothingIsOnTheWays();
        theStoreIsEmpty();
        objectsAreApart();
        Check.end();
    }

    private static void constants() {
        Check.same("NONE", CreditLink.NONE, -1);
        Check.same("FULL", CreditLink.FULL, -2);
        Check.same("CLOSED", CreditLink.CLOSED, 0);
        Check.same("ASKED", CreditLink.ASKED, 1);
        Check.same("OPEN", CreditLink.OPEN, 2);
        Check.same("LEAVING", CreditLink.LEAVING, 3);
    }

    private static void channelsAreClosed() {
        Check.sentence("CHANNELS CLOSED");
        CreditLink x = new CreditLink();
        for (int host = 0; host < 2; host++) {
            for (int channel = 64; channel < 68; channel++) {
                Link.channelIs(x, host, channel, 0, 0, 0, 0, 0, 0, 0, 0);
                Check.same("receive", x.receive(host, channel), CreditLink.NONE);
            }
        }
    }

    private static void nothingIsOnTheWays() {
        Check.sentence("nothing on the WAYS");
        CreditLink x = new CreditLink();
        for (int host = 0; host < 2; host++) {
            Link.countsAre(x, host, 4, 0, 0, 0, 0, 0, 0);
            Check.same("take", x.take(host), CreditLink.NONE);
            Check.same("lose", x.lose(host) ? 1 : 0, 0);
        }
    }

    private static void theStoreIsEmpty() {
        Check.sentence("an empty STORE");
        CreditLink x = new CreditLink();
        Check.same("octet(0)", x.octet(0), CreditLink.NONE);
        Check.same("erase", x.erase(), 0);
    }

    private static void thereIsNoService() {
        Check.sentence("no SERVICES");
        for (int service = 1; service <= 9; service++) {
            CreditLink x = new CreditLink();
            x.connect(0, service, 23, 23, 0);
            Link.settle(x);
            Link.channelIs(x, 0, 64, CreditLink.CLOSED);
            Link.channelIs(x, 1, 64, CreditLink.CLOSED);
        }
    }

    private static void objectsAreApart() {
        Check.sentence("CHANNELS CLOSED, no SERVICES, nothing on the WAYS, an empty STORE");
        CreditLink x = Link.opened();
        Link.storeOf(x, 5);
        x.inject(0, 9, 0);
        CreditLink y = new CreditLink();
        Check.same("another one", Link.picture(y), Link.picture(new CreditLink()));
        y.connect(0, 3, 23, 23, 0);
        Link.settle(y);
        Link.channelIs(y, 0, 64, CreditLink.CLOSED);
        Link.channelIs(x, 0, 64, CreditLink.OPEN);
    }
}
