/** Promise 12: the store becomes the first text that is received. */
public final class Promise12ReceiveTest {
    public static void main(String[] args) {
        givesTheFirst();
        leavesTheStoreWithoutOne();
        givesAlsoWhenClosed();
        refusesWrongNumbers();
        Check.end();
    }

    private static void givesTheFirst() {
        CreditLink x = Link.lonely(100, 100, 20, 90, 23, 23, 0);
        for (int round = 0; round < 3; round++) {
            for (int i = 1; i <= 4; i++) {
                Link.unit(x, 0, 64, 2, 0, 10 * round + i, 200 + i);
            }
            Check.same("RECEIVED", x.channel(0, 64, Link.RECEIVED), 4);
            Link.storeOf(x, 120);
            for (int i = 1; i <= 4; i++) {
                Check.same("receive", x.receive(0, 64), 2);
                Check.same("octet(0)", x.octet(0), 10 * round + i);
                Check.same("octet(1)", x.octet(1), 200 + i);
                Check.same("octet(2)", x.octet(2), CreditLink.NONE);
                Check.same("RECEIVED", x.channel(0, 64, Link.RECEIVED), 4 - i);
            }
        }
        Link.channelIs(x, 0, 64, CreditLink.OPEN);
    }

    private static void leavesTheStoreWithoutOne() {
        CreditLink x = Link.opened();
        Link.storeOf(x, 5);
        String before = Link.picture(x);
        Check.same("receive", x.receive(0, 64), CreditLink.NONE);
        Check.same("receive", x.receive(1, 67), CreditLink.NONE);
        Check.same("the state after NONE", Link.picture(x), before);
    }

    private static void givesAlsoWhenClosed() {
        CreditLink x = Link.opened();
        Link.storeOf(x, 6);
        x.send(0, 64);
        Link.settle(x);
        x.leave(0, 64);
        Link.settle(x);
        Link.channelIs(x, 1, 64, CreditLink.CLOSED, 0, 0, 0, 0, 1, 0, 0);
        Check.same("receive", x.receive(1, 64), 6);
        Check.same("receive", x.receive(1, 64), CreditLink.NONE);
    }

    private static void refusesWrongNumbers() {
        CreditLink x = Link.opened();
        Check.argument("host -1", x, () -> x.receive(-1, 64));
        Check.argument("host 2", x, () -> x.receive(2, 64));
        Check.argument("channel 63", x, () -> x.receive(0, 63));
        Check.argument("channel 68", x, () -> x.receive(0, 68));
    }
}
