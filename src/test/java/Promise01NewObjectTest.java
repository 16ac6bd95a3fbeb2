/** Promise 1: channels closed, no services, nothing on the ways, an empty store. */
public final class Promise01NewObjectTest {
    public static void main(String[] args) {
        constants();
        allIsEmpty();
        thereIsNoService();
        objectsAreApart();
        Check.end();
    }

    private static void constants() {
        Check.same("NONE", CreditLink.NONE, -1);
        Check.same("FULL", CreditLink.FULL, -2);
        Check.same("CLOSED", CreditLink.CLOSED, 0);
        Check.same("ASKED", CreditLink.ASKED, 1);
        Check.same("OPEN", CreditLink.OPEN, 2);
        Check.same("LEAVING", CreditLink.LEAVING, 3);
    }

    private static void allIsEmpty() {
        CreditLink x = new CreditLink();
        for (int host = 0; host < 2; host++) {
            for (int channel = 64; channel < 68; channel++) {
                Link.channelIs(x, host, channel, 0, 0, 0, 0, 0, 0, 0, 0);
                Check.same("receive", x.receive(host, channel), CreditLink.NONE);
            }
            Link.countsAre(x, host, 4, 0, 0, 0, 0, 0, 0);
            Check.same("take", x.take(host), CreditLink.NONE);
            Check.same("lose", x.lose(host) ? 1 : 0, 0);
        }
        Check.same("octet(0)", x.octet(0), CreditLink.NONE);
        Check.same("erase", x.erase(), 0);
    }

    private static void thereIsNoService() {
        for (int service = 1; service <= 9; service++) {
            CreditLink x = new CreditLink();
            x.connect(0, service, 23, 23, 0);
            Link.settle(x);
            Link.channelIs(x, 0, 64, CreditLink.CLOSED);
            Link.channelIs(x, 1, 64, CreditLink.CLOSED);
        }
    }

    private static void objectsAreApart() {
        CreditLink x = Link.opened();
        Link.storeOf(x, 5);
        CreditLink y = new CreditLink();
        Link.channelIs(y, 0, 64, CreditLink.CLOSED);
        Check.same("octet(0) of another", y.octet(0), CreditLink.NONE);
        Link.channelIs(x, 0, 64, CreditLink.OPEN);
    }
}
