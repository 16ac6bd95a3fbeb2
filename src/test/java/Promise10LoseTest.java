/** Promise 10: the first packet on a way is gone, and its buffer is free. */
public final class Promise10LoseTest {
    public static void main(String[] args) {
        losesTheFirst();
        tellsWhetherThereWasOne();
        freesTheBuffer();
        freesNoBufferForAnInjectedOne();
        whatIsLostDoesNothing();
        refusesWrongNumbers();
        Check.end();
    }

    private static int lose(CreditLink x, int host) {
        return x.lose(host) ? 1 : 0;
    }

    private static void losesTheFirst() {
        Check.sentence("The first PACKET on the WAY to a HOST is gone");
        CreditLink x = new CreditLink();
        Link.storeOf(x, 30);
        x.inject(0, 9, 0);
        Check.same("lose", lose(x, 0), 1);
        Link.countsAre(x, 0, 4, 1, 0, 0, 0, 0, 0);
        Check.same("take", x.take(0), 7);
    }

    private static void tellsWhetherThereWasOne() {
        Check.sentence("whether there was one");
        CreditLink x = new CreditLink();
        Check.same("lose", lose(x, 0), 0);
        x.inject(0, 9, 0);
        Check.same("lose on the other way", lose(x, 1), 0);
        Check.same("lose", lose(x, 0), 1);
        Check.same("lose", lose(x, 0), 0);
        Link.countsAre(x, 0, 4, 0, 0, 0, 0, 0, 0);
        Link.countsAre(x, 1, 4, 0, 0, 0, 0, 0, 0);
    }

    private static void freesTheBuffer() {
        Check.sentence("its BUFFER is free");
        CreditLink x = Link.opened(23, 23, 0, 100, 100, 5);
        Link.storeOf(x, 100);
        x.send(0, 64);
        x.leave(0, 64);
        Link.countsAre(x, 0, 0, 0, 1);
        Check.same("lose", lose(x, 1), 1);
        Link.countsAre(x, 0, 0, 0, 0);
        Link.countsAre(x, 1, 4, 4);
        Check.same("lose", lose(x, 1), 1);
        Link.countsAre(x, 0, 1, 0, 0);
    }

    private static void freesNoBufferForAnInjectedOne() {
        CreditLink x = new CreditLink();
        x.inject(1, 9, 0);
        x.connect(0, 1, 23, 23, 0);
        Link.countsAre(x, 0, 3);
        Check.same("lose", lose(x, 1), 1);
        Link.countsAre(x, 0, 3);
        Check.same("lose", lose(x, 1), 1);
        Link.countsAre(x, 0, 4);
    }

    private static void whatIsLostDoesNothing() {
        Check.sentence("is gone");
        CreditLink x = Link.opened();
        x.leave(0, 64);
        x.lose(1);
        Link.settle(x);
        Link.channelIs(x, 0, 64, CreditLink.LEAVING);
        Link.channelIs(x, 1, 64, CreditLink.OPEN);
        Link.countsAre(x, 1, 4, 0, 0, 1, 0, 0, 0);
    }

    private static void refusesWrongNumbers() {
        Check.sentence("IllegalArgument");
        Check.argument("host -1", Link::opened, x -> x.lose(-1));
        Check.argument("host 2", Link::opened, x -> x.lose(2));
    }
}
