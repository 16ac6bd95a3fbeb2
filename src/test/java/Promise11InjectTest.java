/** Promise 11: the store comes to a way as packets of one unit. */
public final class Promise11InjectTest {
    public static void main(String[] args) {
        tellsHowManyPackets();
        isOneUnit();
        hasANumberFrom0To65535();
        hasALengthThatIsUpTo100More();
        theStoreStays();
        isFullAbove32();
        countsThePacketsThatWereSent();
        refusesAHostThatIsNone();
        refusesANumberThatIsNone();
        refusesMoreThatIsNone();
        refusesWrongNumbersAlsoWhenFull();
        Check.end();
    }

    private static void tellsHowManyPackets() {
        Check.sentence("how many PACKETS");
        int[] sizes = {0, 1, 23, 24, 50, 51, 77, 78, 104, 105, 120};
        int[] packets = {1, 1, 1, 2, 2, 3, 3, 4, 4, 5, 5};
        for (int i = 0; i < sizes.length; i++) {
            CreditLink x = new CreditLink();
            Link.storeOf(x, sizes[i]);
            Check.same("inject of " + sizes[i], x.inject(0, 9, 0), packets[i]);
            Link.countsAre(x, 0, 4, packets[i]);
            Link.countsAre(x, 1, 4, 0);
            Check.same("packets taken", Link.takeAll(x, 0), packets[i]);
            Check.same("units", x.count(0, Link.UNITS), 1);
        }
    }

    private static void isOneUnit() {
        Check.sentence("THE STORE comes to the WAY to a HOST as PACKETS of one UNIT");
        CreditLink x = Link.lonely(100, 100, 9, 90, 23, 23, 0);
        int[] text = new int[92];
        text[0] = 90;
        for (int i = 2; i < text.length; i++) {
            text[i] = 255 - i;
        }
        Link.unit(x, 0, 64, text);
        Check.same("receive", x.receive(0, 64), 90);
        for (int k = 0; k < 90; k++) {
            Check.same("octet(" + k + ")", x.octet(k), 253 - k);
        }
    }

    private static void hasANumberFrom0To65535() {
        Check.sentence("with a number (0 .. 65535)");
        int[] numbers = {0, 1, 255, 256, 65535};
        for (int number : numbers) {
            CreditLink x = new CreditLink();
            Check.same("inject", x.inject(1, number, 0), 1);
            x.take(1);
            Link.countsAre(x, 1, 4, 0, 0, 1, 1, 0, 0);
        }
        CreditLink y = new CreditLink();
        y.inject(1, 5, 0);
        y.take(1);
        Link.countsAre(y, 1, 4, 0, 0, 1, 0, 0, 0);
    }

    private static void hasALengthThatIsUpTo100More() {
        Check.sentence("a length that is so much more than it has (0 .. 100)");
        CreditLink x = new CreditLink();
        Link.storeOf(x, 10);
        x.inject(0, 9, 0);
        x.take(0);
        Link.countsAre(x, 0, 4, 0, 0, 1, 1, 0, 0);
        isSoMuchMore(1, 1);
        isSoMuchMore(26, 1);
        isSoMuchMore(97, 1);
        isSoMuchMore(100, 3);
    }

    /** The bytes that are missing come in two parts, from units whose first packet is lost. */
    private static void isSoMuchMore(int missing, int lastPart) {
        CreditLink x = new CreditLink();
        Link.storeOf(x, 10);
        x.inject(0, 9, missing);
        x.take(0);
        comesBehind(x, missing - lastPart);
        Link.countsAre(x, 0, 4, 0, 0, 0, 0, 0, 14 + missing - lastPart);
        comesBehind(x, lastPart);
        Link.countsAre(x, 0, 4, 0, 0, 1, 1, 0, 0);
    }

    private static void comesBehind(CreditLink x, int bytes) {
        Link.storeOf(x, 23 + bytes);
        x.inject(0, 9, 0);
        x.lose(0);
        Link.takeAll(x, 0);
    }

    private static void theStoreStays() {
        Check.sentence("it stays");
        CreditLink x = new CreditLink();
        Link.storeOf(x, 120);
        x.inject(0, 9, 7);
        Check.same("octet(0)", x.octet(0), 1);
        Check.same("octet(119)", x.octet(119), 120);
        Check.same("erase", x.erase(), 120);
    }

    private static CreditLink withOnWay(int packets, int bytes) {
        CreditLink x = new CreditLink();
        for (int i = 0; i < packets; i++) {
            x.inject(1, 9, 0);
        }
        Link.storeOf(x, bytes);
        return x;
    }

    private static void isFullAbove32() {
        Check.sentence("or FULL: there would be more than 32");
        Check.same("one behind 31", withOnWay(31, 0).inject(1, 9, 0), 1);
        Check.full("one behind 32", () -> withOnWay(32, 0), x -> x.inject(1, 9, 0));
        Check.same("two behind 30", withOnWay(30, 24).inject(1, 9, 0), 2);
        Check.full("two behind 31", () -> withOnWay(31, 24), x -> x.inject(1, 9, 0));
        Check.same("five behind 27", withOnWay(27, 120).inject(1, 9, 0), 5);
        Check.full("five behind 28", () -> withOnWay(28, 120), x -> x.inject(1, 9, 0));
        Check.same("on the other way", withOnWay(32, 0).inject(0, 9, 0), 1);
    }

    private static CreditLink withOneSent() {
        CreditLink x = withOnWay(31, 0);
        x.connect(0, 1, 23, 23, 0);
        return x;
    }

    private static void countsThePacketsThatWereSent() {
        Check.full("one behind 31 and a sent one", Promise11InjectTest::withOneSent, x -> x.inject(1, 9, 0));
    }

    private static void refusesAHostThatIsNone() {
        Check.sentence("IllegalArgument");
        Check.argument("host -1", Link::opened, x -> x.inject(-1, 5, 0));
        Check.argument("host 2", Link::opened, x -> x.inject(2, 5, 0));
    }

    private static void refusesANumberThatIsNone() {
        Check.sentence("with a number (0 .. 65535)");
        Check.argument("number -1", Link::opened, x -> x.inject(0, -1, 0));
        Check.argument("number 65536", Link::opened, x -> x.inject(0, 65536, 0));
    }

    private static void refusesMoreThatIsNone() {
        Check.sentence("a length that is so much more than it has (0 .. 100)");
        Check.argument("more -1", Link::opened, x -> x.inject(0, 5, -1));
        Check.argument("more 101", Link::opened, x -> x.inject(0, 5, 101));
    }

    private static void refusesWrongNumbersAlsoWhenFull() {
        Check.sentence("IllegalArgument");
        Check.argument("number -1", () -> withOnWay(32, 0), x -> x.inject(1, -1, 0));
        Check.argument("more 101", () -> withOnWay(32, 0), x -> x.inject(1, 9, 101));
    }
}
