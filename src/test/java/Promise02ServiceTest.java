/** Promise 2: a service of a host, and the numbers that it takes. */
public final class Promise02ServiceTest {
    public static void main(String[] args) {
        givesWhatItHas(1, 23, 23, 0);
        givesWhatItHas(9, 100, 100, 1000);
        givesWhatItHas(5, 40, 25, 7);
        isTheHostsOwn();
        canBeToldAnew();
        refusesWrongNumbers();
        Check.end();
    }

    private static void givesWhatItHas(int service, int mtu, int mps, int credits) {
        CreditLink x = new CreditLink();
        x.service(1, service, mtu, mps, credits);
        x.connect(0, service, 50, 30, 3);
        Link.settle(x);
        Link.channelIs(x, 0, 64, CreditLink.OPEN, 64, credits, 3, 0, 0, mtu, mps);
        Link.channelIs(x, 1, 64, CreditLink.OPEN, 64, 3, credits, 0, 0, 50, 30);
    }

    private static void isTheHostsOwn() {
        CreditLink x = new CreditLink();
        x.service(0, 4, 40, 25, 7);
        x.connect(0, 4, 50, 30, 3);
        Link.settle(x);
        Link.channelIs(x, 0, 64, CreditLink.CLOSED);
        x.connect(1, 4, 50, 30, 3);
        Link.settle(x);
        Link.channelIs(x, 1, 64, CreditLink.OPEN);
    }

    private static void canBeToldAnew() {
        CreditLink x = new CreditLink();
        x.service(1, 4, 40, 25, 7);
        x.service(1, 4, 60, 61, 8);
        x.connect(0, 4, 50, 30, 3);
        Link.settle(x);
        Link.channelIs(x, 0, 64, CreditLink.OPEN, 64, 8, 3, 0, 0, 60, 61);
        x.service(1, 4, 70, 71, 9);
        Link.channelIs(x, 1, 64, CreditLink.OPEN, 64, 3, 8);
    }

    private static void refusesWrongNumbers() {
        CreditLink x = new CreditLink();
        Check.argument("host -1", x, () -> x.service(-1, 1, 23, 23, 0));
        Check.argument("host 2", x, () -> x.service(2, 1, 23, 23, 0));
        Check.argument("service 0", x, () -> x.service(0, 0, 23, 23, 0));
        Check.argument("service 10", x, () -> x.service(0, 10, 23, 23, 0));
        Check.argument("mtu 22", x, () -> x.service(1, 1, 22, 23, 0));
        Check.argument("mtu 101", x, () -> x.service(1, 1, 101, 23, 0));
        Check.argument("mps 22", x, () -> x.service(1, 1, 23, 22, 0));
        Check.argument("mps 101", x, () -> x.service(1, 1, 23, 101, 0));
        Check.argument("credits -1", x, () -> x.service(1, 1, 23, 23, -1));
        Check.argument("credits 1001", x, () -> x.service(1, 1, 23, 23, 1001));
        x.connect(0, 1, 23, 23, 0);
        Link.settle(x);
        Link.channelIs(x, 0, 64, CreditLink.CLOSED);
    }
}
