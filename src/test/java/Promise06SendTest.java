/** Promise 6: the store becomes a text to be sent on an open channel. */
public final class Promise06SendTest {
    public static void main(String[] args) {
        tellsHowManyThereAre();
        isFullWithTwo();
        isFullAboveFarsMtu();
        sendsAnEmptyText();
        refusesWrongNumbers();
        refusesWhatIsNotOpen();
        Check.end();
    }

    private static void tellsHowManyThereAre() {
        CreditLink x = Link.opened();
        Link.storeOf(x, 3);
        Check.same("send", x.send(0, 64), 1);
        Check.same("the store then", x.erase(), 0);
        Link.channelIs(x, 0, 64, CreditLink.OPEN, 64, 1, 1, 0);
        Link.storeOf(x, 4);
        Check.same("send", x.send(0, 64), 1);
        Link.storeOf(x, 5);
        Check.same("send without credits", x.send(0, 64), 1);
        Link.channelIs(x, 0, 64, CreditLink.OPEN, 64, 0, 1, 1);
        Link.settle(x);
        Check.same("receive", x.receive(1, 64), 3);
        Check.same("octet(2)", x.octet(2), 3);
        Check.same("receive", x.receive(1, 64), 4);
        Check.same("receive", x.receive(1, 64), CreditLink.NONE);
    }

    private static void isFullWithTwo() {
        CreditLink x = Link.opened(50, 23, 1, 40, 25, 0);
        for (int i = 1; i <= 2; i++) {
            Link.storeOf(x, i);
            Check.same("send", x.send(0, 64), i);
        }
        Link.storeOf(x, 3);
        String before = Link.picture(x);
        Check.same("send", x.send(0, 64), CreditLink.FULL);
        Check.same("the state after FULL", Link.picture(x), before);
    }

    private static void isFullAboveFarsMtu() {
        CreditLink x = Link.opened();
        Link.storeOf(x, 41);
        String before = Link.picture(x);
        Check.same("send", x.send(0, 64), CreditLink.FULL);
        Check.same("the state after FULL", Link.picture(x), before);
        Link.storeOf(x, 40);
        Check.same("send", x.send(0, 64), 1);
        Link.storeOf(x, 50);
        Check.same("send the other way", x.send(1, 64), 1);
    }

    private static void sendsAnEmptyText() {
        CreditLink x = Link.opened();
        Check.same("send", x.send(0, 64), 1);
        Check.same("take", x.take(1), 6);
        Check.same("receive", x.receive(1, 64), 0);
    }

    private static void refusesWrongNumbers() {
        CreditLink x = Link.opened();
        Link.storeOf(x, 3);
        Check.argument("host -1", x, () -> x.send(-1, 64));
        Check.argument("host 2", x, () -> x.send(2, 64));
        Check.argument("channel 63", x, () -> x.send(0, 63));
        Check.argument("channel 68", x, () -> x.send(0, 68));
    }

    private static void refusesWhatIsNotOpen() {
        CreditLink x = new CreditLink();
        Link.storeOf(x, 3);
        Check.state("CLOSED", x, () -> x.send(0, 64));
        x.connect(0, 3, 23, 23, 1);
        Check.state("ASKED", x, () -> x.send(0, 64));
        CreditLink y = Link.opened();
        y.leave(0, 64);
        Link.storeOf(y, 99);
        Check.state("LEAVING", y, () -> y.send(0, 64));
    }
}
