/** Promise 15: what a host counts. */
public final class Promise15CountTest {
    public static void main(String[] args) {
        countsFreeBuffers();
        countsPacketsOnTheWay();
        countsSignalsThatWait();
        countsWholeUnits();
        countsDropped();
        countsRejected();
        countsGathered();
        refusesAHostThatIsNone();
        refusesAWhatThatIsNone();
        Check.end();
    }

    private static void countsFreeBuffers() {
        Check.sentence("what = 0 BUFFERS that are free");
        CreditLink x = Link.opened();
        for (int free = 4; free >= 0; free--) {
            Check.same("count(1, 0)", x.count(1, Link.FREE), free);
            Check.same("count(0, 0)", x.count(0, Link.FREE), 4);
            x.grant(1, 64, 1);
        }
        Check.same("count(1, 0)", x.count(1, Link.FREE), 0);
        Link.settle(x);
        Check.same("count(1, 0)", x.count(1, Link.FREE), 4);
    }

    private static void countsPacketsOnTheWay() {
        Check.sentence("1 PACKETS on the WAY to it");
        CreditLink x = Link.opened();
        for (int i = 0; i <= 32; i++) {
            Check.same("count(1, 1)", x.count(1, Link.ON_WAY), i);
            Check.same("count(0, 1)", x.count(0, Link.ON_WAY), 0);
            x.inject(1, 9, 0);
        }
        Check.same("count(1, 1)", x.count(1, Link.ON_WAY), 32);
    }

    private static void countsSignalsThatWait() {
        Check.sentence("2 SIGNALS that wait (without one begun)");
        CreditLink x = Link.opened(23, 23, 0, 100, 100, 5);
        for (int i = 0; i < 4; i++) {
            x.grant(1, 64, 1);
            Check.same("one that is begun does not wait", x.count(1, Link.WAITING), 0);
        }
        for (int i = 1; i <= 3; i++) {
            x.grant(1, 64, 1);
            Check.same("count(1, 2)", x.count(1, Link.WAITING), i);
        }
        x.take(0);
        Check.same("count(1, 2)", x.count(1, Link.WAITING), 2);
        Check.same("count(0, 2)", x.count(0, Link.WAITING), 0);
        Link.settle(x);
        Check.same("count(1, 2)", x.count(1, Link.WAITING), 0);
    }

    private static void countsWholeUnits() {
        Check.sentence("3 UNITS that it took (whole ones, also SIGNALS and those DROPPED for their number)");
        CreditLink x = Link.lonely(30, 30, 5, 90, 23, 23, 0);
        Check.same("a request", x.count(0, Link.UNITS), 1);
        Link.unit(x, 0, 5);
        Check.same("a signal without bytes", x.count(0, Link.UNITS), 2);
        Link.unit(x, 0, 5, 20, 0, 0, 0);
        Check.same("a signal with id 0", x.count(0, Link.UNITS), 3);
        Link.unit(x, 0, 5, 99, 3, 0, 0);
        Check.same("a signal that is REJECTED", x.count(0, Link.UNITS), 4);
        Link.unit(x, 0, 64, 0, 0);
        Check.same("a segment", x.count(0, Link.UNITS), 5);
        Link.unit(x, 0, 65, 0, 0);
        Check.same("one that is DROPPED for its number", x.count(0, Link.UNITS), 6);
        Link.unit(x, 0, 64);
        Check.same("a segment for which it leaves", x.count(0, Link.UNITS), 7);
        Link.storeOf(x, 3);
        x.inject(0, 64, 1);
        x.take(0);
        Check.same("one that is not whole", x.count(0, Link.UNITS), 7);
        Link.storeOf(x, 24);
        x.inject(0, 64, 0);
        x.lose(0);
        x.lose(0);
        Check.same("one that was lost", x.count(0, Link.UNITS), 7);
        Check.same("of the other host", x.count(1, Link.UNITS), 0);
    }

    private static void countsDropped() {
        Check.sentence("4 DROPPED");
        CreditLink x = new CreditLink();
        Link.unit(x, 0, 64, 1);
        Check.same("a unit of another number", x.count(0, Link.DROPPED), 1);
        Link.storeOf(x, 3);
        x.inject(0, 64, 1);
        x.take(0);
        Check.same("what is gathered", x.count(0, Link.DROPPED), 1);
        Link.unit(x, 0, 5);
        Check.same("what was gathered", x.count(0, Link.DROPPED), 2);
        x.inject(0, 64, 0);
        x.lose(0);
        Check.same("a lost one", x.count(0, Link.DROPPED), 2);
        Check.same("of the other host", x.count(1, Link.DROPPED), 0);
    }

    private static void countsRejected() {
        Check.sentence("5 REJECTED");
        CreditLink x = Link.opened();
        Link.unit(x, 0, 5, 99, 3, 0, 0);
        Check.same("one for 0", x.count(0, Link.REJECTED), 1);
        Link.signal(x, 0, Link.LEAVE, 3, 65, 90);
        Check.same("one for 2", x.count(0, Link.REJECTED), 2);
        Link.takeAll(x, 1);
        Check.same("of the host that is told", x.count(1, Link.REJECTED), 0);
        Link.signal(x, 0, Link.REQUEST, 3, 9, 90, 23, 23, 0);
        Check.same("a request that is refused", x.count(0, Link.REJECTED), 2);
    }

    private static void countsGathered() {
        Check.sentence("6 bytes GATHERED");
        CreditLink x = new CreditLink();
        Link.storeOf(x, 24);
        x.inject(1, 9, 1);
        x.take(1);
        Check.same("count(1, 6)", x.count(1, Link.GATHERED), 27);
        x.take(1);
        Check.same("count(1, 6)", x.count(1, Link.GATHERED), 28);
        Check.same("count(0, 6)", x.count(0, Link.GATHERED), 0);
        Link.unit(x, 1, 9);
        Check.same("count(1, 6)", x.count(1, Link.GATHERED), 0);
    }

    private static void refusesAHostThatIsNone() {
        Check.sentence("Of a HOST");
        Check.argument("host -1", Link::opened, x -> x.count(-1, 0));
        Check.argument("host 2", Link::opened, x -> x.count(2, 0));
    }

    private static void refusesAWhatThatIsNone() {
        Check.sentence("IllegalArgument is thrown where a number is none of those told here");
        Check.argument("what -1", Link::opened, x -> x.count(0, -1));
        Check.argument("what 7", Link::opened, x -> x.count(0, 7));
    }
}
