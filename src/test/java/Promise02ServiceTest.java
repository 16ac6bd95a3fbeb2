/** Promise 2: a service of a host, and the numbers that it takes. */
public final class Promise02ServiceTest {
    public static void main(String[] args) {
        givesWhatItHas();
        isTheHostsOwn();
        canBeToldAnew();
        takesTheNumbersAtItsEdges();
        refusesAHostThatIsNone();
        refusesAServiceThatIsNone();
        refusesAnMtuBelow23OrAbove100();
        refusesAnMpsBelow23OrAbove100();
        refusesCreditsBelow0OrAbove1000();
        Check.end();
    }

    private static void gives(int service, int mtu, int mps, int credits) {
        CreditLink x = new CreditLink();
        x.service(1, service, mtu, mps, credits);
        x.connect(0, service, 50, 30, 3);
        Link.settle(x);
        Link.channelIs(x, 0, 64, CreditLink.OPEN, 64, credits, 3, 0, 0, mtu, mps);
        Link.channelIs(x, 1, 64, CreditLink.OPEN, 64, 3, credits, 0, 0, 50, 30);
    }

    private static void givesWhatItHas() {
        Check.sentence("A SERVICE of a HOST");
        gives(5, 40, 25, 7);
    }

    private static void isTheHostsOwn() {
        CreditLink x = new CreditLink();
        x.service(0, 4, 40, 25, 7);
        x.connect(0, 4, 50, 30, 3);
        Link.settle(x);
        Link.channelIs(x, 0, 64, CreditLink.CLOSED);
        x.connect(1, 4, 50, 30, 3);
        Link.settle(x);
        Link.channelIs(x, 1, 64, CreditLink.OPEN);
    }

    private static void canBeToldAnew() {
        CreditLink x = new CreditLink();
        x.service(1, 4, 40, 25, 7);
        x.service(1, 4, 60, 61, 8);
        x.connect(0, 4, 50, 30, 3);
        Link.settle(x);
        Link.channelIs(x, 0, 64, CreditLink.OPEN, 64, 8, 3, 0, 0, 60, 61);
        x.service(1, 4, 70, 71, 9);
        Link.channelIs(x, 1, 64, CreditLink.OPEN, 64, 3, 8);
    }

    private static void takesTheNumbersAtItsEdges() {
        Check.sentence("MTU and MPS 23 .. 100, credits 0 .. 1000");
        gives(1, 23, 23, 0);
        gives(9, 100, 100, 1000);
        gives(1, 23, 100, 0);
        gives(9, 100, 23, 1000);
    }

    private static void refusesAHostThatIsNone() {
        Check.sentence("A SERVICE of a HOST");
        Check.argument("host -1", CreditLink::new, x -> x.service(-1, 1, 23, 23, 0));
        Check.argument("host 2", CreditLink::new, x -> x.service(2, 1, 23, 23, 0));
    }

    private static void refusesAServiceThatIsNone() {
        Check.sentence("SERVICES 1 .. 9 of a host");
        Check.argument("service 0", CreditLink::new, x -> x.service(0, 0, 23, 23, 0));
        Check.argument("service 10", CreditLink::new, x -> x.service(0, 10, 23, 23, 0));
    }

    private static void refusesAnMtuBelow23OrAbove100() {
        Check.sentence("MTU and MPS 23 .. 100");
        Check.argument("mtu 22", CreditLink::new, x -> x.service(1, 1, 22, 23, 0));
        Check.argument("mtu 101", CreditLink::new, x -> x.service(1, 1, 101, 23, 0));
    }

    private static void refusesAnMpsBelow23OrAbove100() {
        Check.argument("mps 22", CreditLink::new, x -> x.service(1, 1, 23, 22, 0));
        Check.argument("mps 101", CreditLink::new, x -> x.service(1, 1, 23, 101, 0));
    }

    private static void refusesCreditsBelow0OrAbove1000() {
        Check.sentence("credits 0 .. 1000");
        Check.argument("credits -1", CreditLink::new, x -> x.service(1, 1, 23, 23, -1));
        Check.argument("credits 1001", CreditLink::new, x -> x.service(1, 1, 23, 23, 1001));
    }
}
