/** Promise 3: the first closed channel is asked, and a signal 20 waits. */
public final class Promise03ConnectTest {
    public static void main(String[] args) {
        asksAndIsAnswered();
        takesTheFirstClosedOne();
        hasIdsInTurn();
        forgetsReceivedTexts();
        refusesWrongNumbers();
        Check.end();
    }

    private static void asksAndIsAnswered() {
        CreditLink x = new CreditLink();
        x.service(0, 2, 33, 34, 35);
        Check.same("connect", x.connect(1, 2, 45, 46, 47), 64);
        Link.channelIs(x, 1, 64, CreditLink.ASKED, 0, 0, 47, 0, 0, 0, 0);
        Link.countsAre(x, 1, 3, 0, 0);
        Check.same("a request's packet", x.take(0), 18);
        Link.channelIs(x, 0, 64, CreditLink.OPEN, 64, 47, 35, 0, 0, 45, 46);
        Check.same("an answer's packet", x.take(1), 18);
        Link.channelIs(x, 1, 64, CreditLink.OPEN, 64, 35, 47, 0, 0, 33, 34);
    }

    private static void takesTheFirstClosedOne() {
        CreditLink x = new CreditLink();
        x.service(1, 1, 23, 23, 0);
        for (int i = 0; i < 4; i++) {
            Check.same("connect", x.connect(0, 1, 23, 23, 0), 64 + i);
        }
        String before = Link.picture(x);
        Check.same("connect", x.connect(0, 1, 23, 23, 0), CreditLink.FULL);
        Check.same("the state after FULL", Link.picture(x), before);
        Link.settle(x);
        x.leave(0, 65);
        Link.settle(x);
        Check.same("connect", x.connect(0, 1, 23, 23, 0), 65);
    }

    /** An answer out of nowhere shows which id the request had. */
    private static void hasIdsInTurn() {
        CreditLink x = new CreditLink();
        x.connect(0, 1, 23, 23, 0);
        x.connect(0, 1, 23, 23, 0);
        Link.signal(x, 0, Link.ANSWER, 2, 90, 23, 24, 6, 0);
        Link.channelIs(x, 0, 64, CreditLink.ASKED);
        Link.channelIs(x, 0, 65, CreditLink.OPEN, 90, 6, 0, 0, 0, 23, 24);
        idsGoRound();
    }

    private static void idsGoRound() {
        CreditLink x = new CreditLink();
        for (int id = 1; id <= 257; id++) {
            x.connect(0, 1, 23, 23, 0);
            int due = (id - 1) % 255 + 1;
            Link.signal(x, 0, Link.ANSWER, due == 255 ? 1 : due + 1, 70, 23, 23, 0, 1);
            Link.channelIs(x, 0, 64, CreditLink.ASKED);
            Link.signal(x, 0, Link.ANSWER, due, 70, 23, 23, 0, 1);
            Link.channelIs(x, 0, 64, CreditLink.CLOSED);
        }
    }

    private static void forgetsReceivedTexts() {
        CreditLink x = Link.opened();
        Link.unit(x, 0, 64, 1, 0, 9);
        x.leave(0, 64);
        Link.settle(x);
        Link.channelIs(x, 0, 64, CreditLink.CLOSED, 0, 0, 0, 0, 1);
        x.connect(0, 3, 23, 23, 0);
        Link.channelIs(x, 0, 64, CreditLink.ASKED, 0, 0, 0, 0, 0);
    }

    private static void refusesWrongNumbers() {
        CreditLink x = new CreditLink();
        Check.argument("host -1", x, () -> x.connect(-1, 1, 23, 23, 0));
        Check.argument("host 2", x, () -> x.connect(2, 1, 23, 23, 0));
        Check.argument("service 0", x, () -> x.connect(0, 0, 23, 23, 0));
        Check.argument("service 10", x, () -> x.connect(0, 10, 23, 23, 0));
        Check.argument("mtu 22", x, () -> x.connect(1, 1, 22, 23, 0));
        Check.argument("mtu 101", x, () -> x.connect(1, 1, 101, 23, 0));
        Check.argument("mps 22", x, () -> x.connect(1, 1, 23, 22, 0));
        Check.argument("mps 101", x, () -> x.connect(1, 1, 23, 101, 0));
        Check.argument("credits -1", x, () -> x.connect(1, 1, 23, 23, -1));
        Check.argument("credits 1001", x, () -> x.connect(1, 1, 23, 23, 1001));
    }
}
