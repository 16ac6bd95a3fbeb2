/** Promise 15: what a host counts. */
public final class Promise15CountTest {
    public static void main(String[] args) {
        countsBuffersAndSignals();
        countsUnits();
        countsGathered();
        refusesWrongNumbers();
        Check.end();
    }

    private static void countsBuffersAndSignals() {
        CreditLink x = Link.opened();
        for (int i = 1; i <= 4; i++) {
            x.grant(1, 64, 1);
            Link.countsAre(x, 1, 4 - i, 0, 0, 1, 0, 0, 0);
            Link.countsAre(x, 0, 4, i, 0, 1, 0, 0, 0);
        }
        for (int i = 1; i <= 3; i++) {
            x.grant(1, 64, 1);
            Link.countsAre(x, 1, 0, 0, i, 1, 0, 0, 0);
            Link.countsAre(x, 0, 4, 4, 0, 1, 0, 0, 0);
        }
        x.take(0);
        Link.countsAre(x, 1, 0, 0, 2, 1, 0, 0, 0);
        Link.countsAre(x, 0, 4, 4, 0, 2, 0, 0, 0);
        Link.settle(x);
        Link.countsAre(x, 1, 4, 0, 0, 1, 0, 0, 0);
        Link.countsAre(x, 0, 4, 0, 0, 8, 0, 0, 0);
    }

    private static void countsUnits() {
        CreditLink x = Link.lonely(30, 30, 5, 90, 23, 23, 0);
        Link.countsAre(x, 0, 4, 0, 0, 1, 0, 0, 0);
        Link.unit(x, 0, 5);
        Link.unit(x, 0, 5, 20, 0, 0, 0);
        Link.countsAre(x, 0, 4, 0, 0, 3, 0, 0, 0);
        Link.unit(x, 0, 64, 0, 0);
        Link.countsAre(x, 0, 4, 0, 0, 4, 0, 0, 0);
        Link.unit(x, 0, 65, 0, 0);
        Link.unit(x, 0, 4, 0, 0);
        Link.countsAre(x, 0, 4, 0, 0, 6, 2, 0, 0);
        Link.unit(x, 0, 5, 99, 3, 0, 0);
        Link.countsAre(x, 0, 3, 0, 0, 7, 2, 1, 0);
        Link.signal(x, 0, Link.LEAVE, 3, 65, 90);
        Link.countsAre(x, 0, 2, 0, 0, 8, 2, 2, 0);
        Check.same("a REJECT that is taken counts no REJECTED", Link.takeAll(x, 1), 2);
        Link.countsAre(x, 1, 4, 0, 0, 2, 0, 0, 0);
    }

    private static void countsGathered() {
        CreditLink x = new CreditLink();
        Link.storeOf(x, 24);
        x.inject(1, 9, 1);
        x.take(1);
        Link.countsAre(x, 1, 4, 1, 0, 0, 0, 0, 27);
        x.take(1);
        Link.countsAre(x, 1, 4, 0, 0, 0, 0, 0, 28);
        Link.countsAre(x, 0, 4, 0, 0, 0, 0, 0, 0);
    }

    private static void refusesWrongNumbers() {
        CreditLink x = Link.opened();
        Check.argument("host -1", x, () -> x.count(-1, 0));
        Check.argument("host 2", x, () -> x.count(2, 0));
        Check.argument("what -1", x, () -> x.count(0, -1));
        Check.argument("what 7", x, () -> x.count(0, 7));
    }
}
