/** Promise 3: the first closed channel is asked, and a signal 20 waits. */
public final class Promise03ConnectTest {
    public static void main(String[] args) {
        asksAndIsAnswered();
        takesTheFirstClosedOne();
        isFullWithoutAClosedOne();
        aSignal20Waits();
        takesTheNumbersAtItsEdges();
        refusesAHostThatIsNone();
        refusesAServiceThatIsNone();
        refusesSizesBelow23OrAbove100();
        refusesCreditsBelow0OrAbove1000();
        refusesWrongNumbersAlsoWhenFull();
        Check.end();
    }

    private static void asksAndIsAnswered() {
        Check.sentence("The first CLOSED CHANNEL of a HOST is ASKED");
        CreditLink x = new CreditLink();
        x.service(0, 2, 33, 34, 35);
        Check.same("connect", x.connect(1, 2, 45, 46, 47), 64);
        Link.channelIs(x, 1, 64, CreditLink.ASKED, 0, 0, 47, 0, 0, 0, 0);
        Check.same("a request's packet", x.take(0), 18);
        Link.channelIs(x, 0, 64, CreditLink.OPEN, 64, 47, 35, 0, 0, 45, 46);
        Check.same("an answer's packet", x.take(1), 18);
        Link.channelIs(x, 1, 64, CreditLink.OPEN, 64, 35, 47, 0, 0, 33, 34);
    }

    private static void takesTheFirstClosedOne() {
        CreditLink x = fourAsked();
        Link.settle(x);
        x.leave(0, 67);
        x.leave(0, 65);
        Link.settle(x);
        Check.same("connect", x.connect(0, 1, 23, 23, 0), 65);
        Check.same("connect", x.connect(0, 1, 23, 23, 0), 67);
        Check.same("connect", x.connect(0, 1, 23, 23, 0), CreditLink.FULL);
    }

    private static CreditLink fourAsked() {
        CreditLink x = new CreditLink();
        x.service(1, 1, 23, 23, 0);
        for (int i = 0; i < 4; i++) {
            Check.same("connect", x.connect(0, 1, 23, 23, 0), 64 + i);
        }
        return x;
    }

    private static CreditLink fourOpen() {
        CreditLink x = fourAsked();
        Link.settle(x);
        return x;
    }

    private static CreditLink fourLeaving() {
        CreditLink x = fourOpen();
        for (int channel = 64; channel < 68; channel++) {
            x.leave(0, channel);
        }
        return x;
    }

    private static void isFullWithoutAClosedOne() {
        Check.sentence("its number; or FULL");
        Check.full("connect: all ASKED", Promise03ConnectTest::fourAsked, x -> x.connect(0, 1, 23, 23, 0));
        Check.full("connect: all OPEN", Promise03ConnectTest::fourOpen, x -> x.connect(0, 1, 23, 23, 0));
        Check.full("connect: all LEAVING", Promise03ConnectTest::fourLeaving, x -> x.connect(0, 1, 23, 23, 0));
        CreditLink y = fourAsked();
        Check.same("connect of the other host", y.connect(1, 1, 23, 23, 0), 64);
    }

    private static void aSignal20Waits() {
        Check.sentence("a SIGNAL 20 for a SERVICE waits");
        CreditLink x = new CreditLink();
        Link.block(x, 1);
        x.connect(0, 1, 23, 23, 0);
        Link.countsAre(x, 0, 4, 0, 1);
        x.take(1);
        Link.countsAre(x, 0, 3, 0, 0);
    }

    private static void takesTheNumbersAtItsEdges() {
        Check.sentence("IllegalArgument: as with service");
        int[][] edges = {{1, 23, 23, 0}, {9, 100, 100, 1000}, {9, 23, 100, 0}, {1, 100, 23, 1000}};
        for (int[] edge : edges) {
            CreditLink x = new CreditLink();
            x.service(1, edge[0], 40, 40, 4);
            Check.same("connect", x.connect(0, edge[0], edge[1], edge[2], edge[3]), 64);
            Link.settle(x);
            Link.channelIs(x, 1, 64, CreditLink.OPEN, 64, edge[3], 4, 0, 0, edge[1], edge[2]);
            Link.channelIs(x, 0, 64, CreditLink.OPEN, 64, 4, edge[3], 0, 0, 40, 40);
        }
    }

    private static void refusesAHostThatIsNone() {
        Check.argument("host -1", CreditLink::new, x -> x.connect(-1, 1, 23, 23, 0));
        Check.argument("host 2", CreditLink::new, x -> x.connect(2, 1, 23, 23, 0));
    }

    private static void refusesAServiceThatIsNone() {
        Check.argument("service 0", CreditLink::new, x -> x.connect(0, 0, 23, 23, 0));
        Check.argument("service 10", CreditLink::new, x -> x.connect(0, 10, 23, 23, 0));
    }

    private static void refusesSizesBelow23OrAbove100() {
        Check.argument("mtu 22", CreditLink::new, x -> x.connect(1, 1, 22, 23, 0));
        Check.argument("mtu 101", CreditLink::new, x -> x.connect(1, 1, 101, 23, 0));
        Check.argument("mps 22", CreditLink::new, x -> x.connect(1, 1, 23, 22, 0));
        Check.argument("mps 101", CreditLink::new, x -> x.connect(1, 1, 23, 101, 0));
    }

    private static void refusesCreditsBelow0OrAbove1000() {
        Check.argument("credits -1", CreditLink::new, x -> x.connect(1, 1, 23, 23, -1));
        Check.argument("credits 1001", CreditLink::new, x -> x.connect(1, 1, 23, 23, 1001));
    }

    private static void refusesWrongNumbersAlsoWhenFull() {
        Check.argument("mtu 22", Promise03ConnectTest::fourAsked, x -> x.connect(0, 1, 22, 23, 0));
        Check.argument("service 0", Promise03ConnectTest::fourAsked, x -> x.connect(0, 0, 23, 23, 0));
    }
}
