/** Promise 9: a host takes a packet; TakingTest has what that means. */
public final class Promise09TakeTest {
    public static void main(String[] args) {
        tellsThePacketsBytes();
        tellsNoneWithoutOne();
        takesFromItsOwnWay();
        refusesWrongNumbers();
        Check.end();
    }

    private static void tellsThePacketsBytes() {
        Check.sentence("A HOST TAKES a PACKET: how many bytes it has");
        CreditLink x = new CreditLink();
        Link.storeOf(x, 60);
        x.inject(0, 9, 0);
        Check.same("take", x.take(0), 27);
        Link.countsAre(x, 0, 4, 2, 0, 0, 0, 0, 27);
        Check.same("take", x.take(0), 27);
        Link.countsAre(x, 0, 4, 1, 0, 0, 0, 0, 54);
        Check.same("take", x.take(0), 10);
        Link.countsAre(x, 0, 4, 0, 0, 1, 1, 0, 0);
        Check.same("take", x.take(0), CreditLink.NONE);
        x.erase();
        x.inject(1, 9, 0);
        Check.same("take of the shortest one", x.take(1), 4);
        Link.storeOf(x, 24);
        x.inject(1, 9, 0);
        Check.same("take of the longest one", x.take(1), 27);
        Check.same("take of a last byte", x.take(1), 1);
    }

    private static void tellsNoneWithoutOne() {
        Check.sentence("NONE if there is none");
        Check.none("take", CreditLink::new, x -> x.take(0));
        Check.none("take", Link::opened, x -> x.take(1));
    }

    private static void takesFromItsOwnWay() {
        CreditLink x = new CreditLink();
        x.inject(0, 9, 0);
        Check.same("take of the other host", x.take(1), CreditLink.NONE);
        Check.same("take", x.take(0), 4);
    }

    private static void refusesWrongNumbers() {
        Check.sentence("IllegalArgument");
        Check.argument("host -1", Link::opened, x -> x.take(-1));
        Check.argument("host 2", Link::opened, x -> x.take(2));
    }
}
