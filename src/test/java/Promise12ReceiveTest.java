/** Promise 12: the store becomes the first text that is received. */
public final class Promise12ReceiveTest {
    public static void main(String[] args) {
        givesTheFirst();
        givesThemRoundAndRound();
        theStoreBecomesIt();
        givesAnEmptyOne();
        givesTheLongest();
        leavesTheStoreWithoutOne();
        givesWhateverTheChannelIs();
        refusesWrongNumbers();
        Check.end();
    }

    private static CreditLink open() {
        return Link.lonely(100, 100, 40, 90, 23, 23, 0);
    }

    private static void givesTheFirst() {
        Check.sentence("the first TEXT that is RECEIVED on a CHANNEL, which is gone");
        CreditLink x = open();
        for (int i = 1; i <= 4; i++) {
            Link.unit(x, 0, 64, 1, 0, i);
        }
        for (int i = 1; i <= 4; i++) {
            Check.same("RECEIVED", x.channel(0, 64, Link.RECEIVED), 5 - i);
            Check.same("receive", x.receive(0, 64), 1);
            Check.same("octet(0)", x.octet(0), i);
        }
        Check.same("RECEIVED", x.channel(0, 64, Link.RECEIVED), 0);
        Check.same("receive", x.receive(0, 64), CreditLink.NONE);
    }

    /** Three wait all the while, so that the places of the four are used again and again. */
    private static void givesThemRoundAndRound() {
        CreditLink x = open();
        for (int i = 1; i <= 3; i++) {
            Link.unit(x, 0, 64, 1, 0, i);
        }
        for (int i = 4; i <= 20; i++) {
            Link.unit(x, 0, 64, 1, 0, i);
            Check.same("receive", x.receive(0, 64), 1);
            Check.same("octet(0)", x.octet(0), i - 3);
        }
    }

    private static void theStoreBecomesIt() {
        Check.sentence("THE STORE becomes the first TEXT that is RECEIVED on a CHANNEL, which is gone: how many bytes");
        CreditLink x = open();
        Link.unit(x, 0, 64, 2, 0, 200, 255);
        Link.storeOf(x, 120);
        Check.same("receive", x.receive(0, 64), 2);
        Check.same("octet(0)", x.octet(0), 200);
        Check.same("octet(1)", x.octet(1), 255);
        Check.same("octet(2)", x.octet(2), CreditLink.NONE);
        Check.same("erase", x.erase(), 2);
    }

    private static void givesAnEmptyOne() {
        CreditLink x = open();
        Link.unit(x, 0, 64, 0, 0);
        Link.storeOf(x, 120);
        Check.same("receive", x.receive(0, 64), 0);
        Check.same("octet(0)", x.octet(0), CreditLink.NONE);
        Check.same("receive", x.receive(0, 64), CreditLink.NONE);
    }

    private static void givesTheLongest() {
        CreditLink x = Link.opened(23, 23, 0, 100, 23, 9);
        Link.storeOf(x, 100);
        x.send(0, 64);
        Link.settle(x);
        Check.same("receive", x.receive(1, 64), 100);
        for (int k = 0; k < 100; k++) {
            Check.same("octet(" + k + ")", x.octet(k), k + 1);
        }
        Check.same("octet(100)", x.octet(100), CreditLink.NONE);
    }

    private static CreditLink withStore() {
        CreditLink x = Link.opened();
        Link.storeOf(x, 5);
        return x;
    }

    private static CreditLink withHalfAText() {
        CreditLink x = open();
        Link.unit(x, 0, 64, 9, 0, 1);
        Link.storeOf(x, 5);
        return x;
    }

    private static void leavesTheStoreWithoutOne() {
        Check.sentence("NONE if there is none (THE STORE stays)");
        Check.none("receive on an OPEN one", Promise12ReceiveTest::withStore, x -> x.receive(0, 64));
        Check.none("receive on a CLOSED one", Promise12ReceiveTest::withStore, x -> x.receive(1, 67));
        Check.none("receive of half a text", Promise12ReceiveTest::withHalfAText, x -> x.receive(0, 64));
    }

    private static void givesWhateverTheChannelIs() {
        Check.sentence("RECEIVED ones stay until the CHANNEL is ASKED or OPEN again");
        CreditLink x = Link.opened();
        Link.storeOf(x, 6);
        x.send(0, 64);
        Link.settle(x);
        x.leave(0, 64);
        Link.settle(x);
        Link.channelIs(x, 1, 64, CreditLink.CLOSED, 0, 0, 0, 0, 1, 0, 0);
        Check.same("receive", x.receive(1, 64), 6);
        Check.same("receive", x.receive(1, 64), CreditLink.NONE);
    }

    private static void refusesWrongNumbers() {
        Check.sentence("IllegalArgument");
        Check.argument("host -1", Link::opened, x -> x.receive(-1, 64));
        Check.argument("host 2", Link::opened, x -> x.receive(2, 64));
        Check.argument("channel 63", Link::opened, x -> x.receive(0, 63));
        Check.argument("channel 68", Link::opened, x -> x.receive(0, 68));
    }
}
