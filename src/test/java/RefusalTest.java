import java.util.function.BiConsumer;

/** The last sentences of the terms: what throws, or is FULL, changes nothing. */
public final class RefusalTest {
    public static void main(String[] args) {
        everyHostThatIsNoneIsRefused();
        everyChannelThatIsNoneIsRefused();
        everyServiceThatIsNoneIsRefused();
        everySizeThatIsNoneIsRefused();
        everyNumberOfCreditsThatIsNoneIsRefused();
        everyOtherNumberThatIsNoneIsRefused();
        whatIsNotOpenIsRefused();
        whatIsFullIsRefused();
        theFirstExceptionWins();
        Check.end();
    }

    /** Something of everything: a text halfway each way, signals that wait, packets, a store. */
    private static CreditLink busy() {
        CreditLink x = Link.opened(40, 30, 5, 100, 23, 1);
        Link.storeOf(x, 60);
        x.send(0, 64);
        Link.takeAll(x, 1);
        Link.unit(x, 0, 64, 9, 0, 1, 2);
        for (int i = 0; i < 6; i++) {
            x.grant(0, 64, 1);
        }
        x.connect(0, 3, 30, 30, 3);
        Link.storeOf(x, 8);
        x.inject(1, 64, 7);
        x.inject(0, 64, 7);
        x.take(0);
        return x;
    }

    /** Numbers beside a range, at it and far off, also such as look right in their lower bytes. */
    private static void refused(String what, int low, int high, BiConsumer<CreditLink, Integer> call) {
        int[] wrong = {
            low - 1, high + 1, low - 256, high + 256, low - 65536, high + 65536,
            low | Integer.MIN_VALUE, Integer.MIN_VALUE, Integer.MAX_VALUE
        };
        for (int number : wrong) {
            Check.argument(what + " " + number, RefusalTest::busy, x -> call.accept(x, number));
        }
    }

    private static void everyHostThatIsNoneIsRefused() {
        Check.sentence("IllegalArgument is thrown where a number is none of those told here");
        refused("service of host", 0, 1, (x, host) -> x.service(host, 1, 23, 23, 0));
        refused("connect of host", 0, 1, (x, host) -> x.connect(host, 1, 23, 23, 0));
        refused("send of host", 0, 1, (x, host) -> x.send(host, 64));
        refused("grant of host", 0, 1, (x, host) -> x.grant(host, 64, 1));
        refused("leave of host", 0, 1, (x, host) -> x.leave(host, 64));
        refused("take of host", 0, 1, (x, host) -> x.take(host));
        refused("lose of host", 0, 1, (x, host) -> x.lose(host));
        refused("inject of host", 0, 1, (x, host) -> x.inject(host, 64, 0));
        refused("receive of host", 0, 1, (x, host) -> x.receive(host, 64));
        refused("channel of host", 0, 1, (x, host) -> x.channel(host, 64, 0));
        refused("count of host", 0, 1, (x, host) -> x.count(host, 0));
    }

    private static void everyChannelThatIsNoneIsRefused() {
        Check.sentence("IllegalArgument is thrown where a number is none of those told here");
        refused("send on", 64, 67, (x, channel) -> x.send(0, channel));
        refused("grant on", 64, 67, (x, channel) -> x.grant(0, channel, 1));
        refused("leave of", 64, 67, (x, channel) -> x.leave(0, channel));
        refused("receive on", 64, 67, (x, channel) -> x.receive(0, channel));
        refused("channel", 64, 67, (x, channel) -> x.channel(0, channel, 0));
    }

    private static void everyServiceThatIsNoneIsRefused() {
        Check.sentence("IllegalArgument is thrown where a number is none of those told here");
        refused("service", 1, 9, (x, service) -> x.service(1, service, 23, 23, 0));
        refused("connect to", 1, 9, (x, service) -> x.connect(0, service, 23, 23, 0));
    }

    private static void everySizeThatIsNoneIsRefused() {
        Check.sentence("IllegalArgument is thrown where a number is none of those told here");
        refused("service with MTU", 23, 100, (x, mtu) -> x.service(1, 1, mtu, 23, 0));
        refused("service with MPS", 23, 100, (x, mps) -> x.service(1, 1, 23, mps, 0));
        refused("connect with MTU", 23, 100, (x, mtu) -> x.connect(0, 1, mtu, 23, 0));
        refused("connect with MPS", 23, 100, (x, mps) -> x.connect(0, 1, 23, mps, 0));
    }

    private static void everyNumberOfCreditsThatIsNoneIsRefused() {
        Check.sentence("IllegalArgument is thrown where a number is none of those told here");
        refused("service with credits", 0, 1000, (x, credits) -> x.service(1, 1, 23, 23, credits));
        refused("connect with credits", 0, 1000, (x, credits) -> x.connect(0, 1, 23, 23, credits));
        refused("grant of credits", 1, 1000, (x, credits) -> x.grant(0, 64, credits));
    }

    private static void everyOtherNumberThatIsNoneIsRefused() {
        Check.sentence("IllegalArgument is thrown where a number is none of those told here");
        refused("feed of", 0, 16, (x, many) -> x.feed(many, 1, 2, 3, 4));
        refused("inject with number", 0, 65535, (x, number) -> x.inject(1, number, 0));
        refused("inject with more", 0, 100, (x, more) -> x.inject(1, 64, more));
        refused("channel with what", 0, 7, (x, what) -> x.channel(0, 64, what));
        refused("count with what", 0, 6, (x, what) -> x.count(0, what));
    }

    private static CreditLink busyAndLeaving() {
        CreditLink x = busy();
        x.leave(0, 64);
        return x;
    }

    private static CreditLink busyWithAFullStore() {
        CreditLink x = busy();
        Link.storeOf(x, 120);
        return x;
    }

    private static void whatIsNotOpenIsRefused() {
        Check.sentence("What throws .. changes nothing");
        Check.state("send on an ASKED one", RefusalTest::busy, x -> x.send(0, 65));
        Check.state("grant on an ASKED one", RefusalTest::busy, x -> x.grant(0, 65, 1));
        Check.state("leave of an ASKED one", RefusalTest::busy, x -> x.leave(0, 65));
        Check.state("send on a CLOSED one", RefusalTest::busy, x -> x.send(0, 66));
        Check.state("grant on a CLOSED one", RefusalTest::busy, x -> x.grant(0, 66, 1));
        Check.state("leave of a CLOSED one", RefusalTest::busy, x -> x.leave(0, 66));
        Check.state("send on a LEAVING one", RefusalTest::busyAndLeaving, x -> x.send(0, 64));
        Check.state("grant on a LEAVING one", RefusalTest::busyAndLeaving, x -> x.grant(0, 64, 1));
        Check.state("leave of a LEAVING one", RefusalTest::busyAndLeaving, x -> x.leave(0, 64));
        Check.state("feed", RefusalTest::busyWithAFullStore, x -> x.feed(1, 1, 2, 3, 4));
    }

    private static CreditLink busyWithFourChannels() {
        CreditLink x = busy();
        x.connect(0, 3, 30, 30, 3);
        x.connect(0, 3, 30, 30, 3);
        return x;
    }

    private static CreditLink busyWithTwoTexts() {
        CreditLink x = busy();
        x.send(0, 64);
        Link.storeOf(x, 8);
        return x;
    }

    private static CreditLink busyWithAFullWay() {
        CreditLink x = busy();
        Link.block(x, 1);
        return x;
    }

    private static void whatIsFullIsRefused() {
        Check.sentence("What .. is FULL, changes nothing");
        Check.full("connect", RefusalTest::busyWithFourChannels, x -> x.connect(0, 1, 23, 23, 0));
        Check.full("send of a third", RefusalTest::busyWithTwoTexts, x -> x.send(0, 64));
        Check.full("send above FAR's MTU", RefusalTest::busyWithAFullStore, x -> x.send(0, 64));
        Check.full("inject", RefusalTest::busyWithAFullWay, x -> x.inject(1, 64, 0));
    }

    private static void theFirstExceptionWins() {
        Check.sentence("where a call lists more than one exception, the first one wins");
        Check.argument("feed", RefusalTest::busyWithAFullStore, x -> x.feed(-1, 1, 2, 3, 4));
        Check.argument("feed", RefusalTest::busyWithAFullStore, x -> x.feed(17, 1, 2, 3, 4));
        Check.argument("send", RefusalTest::busy, x -> x.send(-1, 66));
        Check.argument("send", RefusalTest::busy, x -> x.send(0, 68));
        Check.argument("grant", RefusalTest::busy, x -> x.grant(0, 66, 0));
        Check.argument("grant", RefusalTest::busyAndLeaving, x -> x.grant(0, 64, 1001));
        Check.argument("leave", RefusalTest::busyAndLeaving, x -> x.leave(2, 64));
    }
}
