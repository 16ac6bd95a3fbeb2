/** The term SEGMENT, each sentence at its edges: what a channel takes, and when it leaves. */
public final class SegmentTest {
    private static final int FAR = 90;

    public static void main(String[] args) {
        leavesIfGivenIs0();
        leavesIfTheLengthIs0();
        leavesAboveItsMps();
        givenIsOneLess();
        leavesIfTheFirstHasFewerThanTwoBytes();
        leavesIfTheTextIsAboveItsMtu();
        laterOnesHaveNoLength();
        leavesForMoreBytesThanTheTextHas();
        leavesIfFourAreReceived();
        holdsFourAndGathersAFifth();
        aWholeOneIsReceived();
        anEmptyTextIsWhole();
        unitsOfOtherNumbersAreDropped();
        unitsOfAChannelThatIsNotOpenAreDropped();
        Check.end();
    }

    private static CreditLink open(int mtu, int mps, int given) {
        return Link.lonely(mtu, mps, given, FAR, 23, 23, 0);
    }

    private static void is(CreditLink x, int state, int given, int received) {
        Link.channelIs(x, 0, 64, state, FAR, 0, given, 0, received);
        Check.same("signals 6", x.count(1, Link.ON_WAY), state == CreditLink.LEAVING ? 1 : 0);
    }

    private static void after(CreditLink x, int state, int given, int received, int... segment) {
        Link.unit(x, 0, 64, segment);
        is(x, state, given, received);
    }

    /** The first segment of a text of so many bytes, itself with so many. */
    private static int[] first(int text, int bytes) {
        int[] all = new int[bytes];
        all[0] = text;
        return all;
    }

    private static void leavesIfGivenIs0() {
        Check.sentence("it LEAVES if GIVEN is 0");
        after(open(30, 30, 0), CreditLink.LEAVING, 0, 0, 1, 0, 7);
        CreditLink x = open(30, 30, 1);
        after(x, CreditLink.OPEN, 0, 0, 3, 0, 1);
        after(x, CreditLink.LEAVING, 0, 0, 2, 3);
        CreditLink y = open(30, 30, 1);
        after(y, CreditLink.OPEN, 0, 1, 1, 0, 7);
        y.grant(0, 64, 1);
        Link.loseAll(y, 1);
        after(y, CreditLink.OPEN, 0, 2, 1, 0, 7);
    }

    private static void leavesIfTheLengthIs0() {
        Check.sentence("or the length is 0");
        after(open(30, 23, 5), CreditLink.LEAVING, 5, 0);
        CreditLink x = open(30, 23, 5);
        after(x, CreditLink.OPEN, 4, 0, 9, 0, 1);
        after(x, CreditLink.LEAVING, 4, 0);
    }

    private static void leavesAboveItsMps() {
        Check.sentence("or above its MPS");
        after(open(30, 23, 5), CreditLink.OPEN, 4, 0, first(30, 23));
        after(open(30, 23, 5), CreditLink.LEAVING, 5, 0, first(30, 24));
        after(open(30, 24, 5), CreditLink.OPEN, 4, 0, first(30, 24));
        after(open(100, 100, 5), CreditLink.OPEN, 4, 0, first(100, 100));
        after(open(100, 100, 5), CreditLink.LEAVING, 5, 0, first(100, 101));
        CreditLink x = open(60, 23, 5);
        after(x, CreditLink.OPEN, 4, 0, first(60, 23));
        after(x, CreditLink.LEAVING, 4, 0, first(60, 24));
    }

    private static void givenIsOneLess() {
        Check.sentence("GIVEN is one less");
        CreditLink x = open(30, 30, 3);
        after(x, CreditLink.OPEN, 2, 0, 2, 0);
        after(x, CreditLink.OPEN, 1, 0, 7);
        after(x, CreditLink.OPEN, 0, 1, 8);
    }

    private static void leavesIfTheFirstHasFewerThanTwoBytes() {
        Check.sentence("The first of a TEXT: it LEAVES, if it has fewer than two bytes");
        after(open(30, 30, 5), CreditLink.LEAVING, 4, 0, 0);
        after(open(30, 30, 5), CreditLink.LEAVING, 4, 0, 30);
        after(open(30, 30, 5), CreditLink.OPEN, 4, 0, 30, 0);
    }

    private static void leavesIfTheTextIsAboveItsMtu() {
        Check.sentence("or the TEXT's length is above its MTU");
        after(open(23, 30, 5), CreditLink.OPEN, 4, 0, 23, 0);
        after(open(23, 30, 5), CreditLink.LEAVING, 4, 0, 24, 0);
        after(open(100, 30, 5), CreditLink.OPEN, 4, 0, 100, 0);
        after(open(100, 30, 5), CreditLink.LEAVING, 4, 0, 101, 0);
        after(open(100, 30, 5), CreditLink.LEAVING, 4, 0, 1, 1, 7);
        after(open(100, 30, 5), CreditLink.LEAVING, 4, 0, 255, 255);
    }

    private static void laterOnesHaveNoLength() {
        Check.sentence("The first of a TEXT");
        CreditLink x = open(30, 30, 5);
        after(x, CreditLink.OPEN, 4, 0, 3, 0);
        after(x, CreditLink.OPEN, 3, 0, 255);
        after(x, CreditLink.OPEN, 2, 1, 255, 255);
        Check.same("receive", x.receive(0, 64), 3);
        after(x, CreditLink.LEAVING, 1, 0, 255, 255);
    }

    private static void leavesForMoreBytesThanTheTextHas() {
        Check.sentence("It LEAVES if there are more bytes than the TEXT has");
        after(open(30, 30, 5), CreditLink.OPEN, 4, 1, 1, 0, 8);
        after(open(30, 30, 5), CreditLink.LEAVING, 4, 0, 1, 0, 8, 9);
        after(open(30, 30, 5), CreditLink.LEAVING, 4, 0, 0, 0, 8);
        CreditLink x = open(30, 30, 5);
        after(x, CreditLink.OPEN, 4, 0, 3, 0, 8);
        after(x, CreditLink.LEAVING, 3, 0, 7, 6, 5);
        CreditLink y = open(100, 100, 5);
        after(y, CreditLink.OPEN, 4, 0, first(100, 100));
        after(y, CreditLink.LEAVING, 3, 0, 7, 6, 5);
    }

    private static CreditLink withReceived(int many) {
        CreditLink x = open(30, 30, 9);
        for (int i = 0; i < many; i++) {
            Link.unit(x, 0, 64, 1, 0, i);
        }
        return x;
    }

    private static void leavesIfFourAreReceived() {
        Check.sentence("or the TEXT is whole and four are RECEIVED already");
        after(withReceived(3), CreditLink.OPEN, 5, 4, 1, 0, 7);
        after(withReceived(4), CreditLink.LEAVING, 4, 4, 1, 0, 7);
        after(withReceived(4), CreditLink.LEAVING, 4, 4, 0, 0);
        CreditLink x = withReceived(4);
        x.receive(0, 64);
        after(x, CreditLink.OPEN, 4, 4, 1, 0, 7);
    }

    private static void holdsFourAndGathersAFifth() {
        CreditLink x = withReceived(4);
        after(x, CreditLink.OPEN, 4, 4, 2, 0, 7);
        after(x, CreditLink.LEAVING, 3, 4, 8);
        for (int i = 0; i < 4; i++) {
            Check.same("receive", x.receive(0, 64), 1);
            Check.same("octet(0)", x.octet(0), i);
        }
        Check.same("receive", x.receive(0, 64), CreditLink.NONE);
        CreditLink y = withReceived(4);
        after(y, CreditLink.OPEN, 4, 4, 2, 0, 7);
        y.receive(0, 64);
        after(y, CreditLink.OPEN, 3, 4, 8);
    }

    private static void aWholeOneIsReceived() {
        Check.sentence("a whole one is RECEIVED");
        CreditLink x = open(100, 100, 9);
        after(x, CreditLink.OPEN, 8, 0, 3, 0);
        after(x, CreditLink.OPEN, 7, 0, 200, 201);
        after(x, CreditLink.OPEN, 6, 1, 202);
        int[] bytes = first(100, 100);
        bytes[99] = 77;
        after(x, CreditLink.OPEN, 5, 1, bytes);
        after(x, CreditLink.OPEN, 4, 2, 78, 79);
        Check.same("receive", x.receive(0, 64), 3);
        for (int k = 0; k < 3; k++) {
            Check.same("octet", x.octet(k), 200 + k);
        }
        Check.same("receive", x.receive(0, 64), 100);
        Check.same("octet(97)", x.octet(97), 77);
        Check.same("octet(98)", x.octet(98), 78);
        Check.same("octet(99)", x.octet(99), 79);
    }

    private static void anEmptyTextIsWhole() {
        CreditLink x = open(30, 30, 9);
        after(x, CreditLink.OPEN, 8, 1, 0, 0);
        Check.same("receive", x.receive(0, 64), 0);
        Check.same("octet(0)", x.octet(0), CreditLink.NONE);
    }

    private static void unitsOfOtherNumbersAreDropped() {
        Check.sentence("UNITS of other numbers are DROPPED");
        CreditLink x = open(30, 30, 9);
        int[] numbers = {0, 4, 6, 63, 65, 66, 67, 68, FAR, 64 + 256, 64 * 256, 65535};
        for (int i = 0; i < numbers.length; i++) {
            Link.unit(x, 0, numbers[i], 1, 0, 5);
            Link.countsAre(x, 0, 4, 0, 0, i + 2, i + 1, 0, 0);
        }
        is(x, CreditLink.OPEN, 9, 0);
    }

    private static void unitsOfAChannelThatIsNotOpenAreDropped() {
        CreditLink x = open(30, 30, 9);
        x.leave(0, 64);
        after(x, CreditLink.LEAVING, 9, 0, 1, 0, 5);
        Link.unit(x, 0, 64);
        Check.same("DROPPED", x.count(0, Link.DROPPED), 2);
        x.connect(0, 1, 23, 23, 5);
        Link.unit(x, 0, 65, 1, 0, 5);
        Link.channelIs(x, 0, 65, CreditLink.ASKED, 0, 0, 5, 0, 0);
        Check.same("DROPPED", x.count(0, Link.DROPPED), 3);
        Link.unit(x, 0, 66, 1, 0, 5);
        Check.same("DROPPED", x.count(0, Link.DROPPED), 4);
        Check.same("signals 6 and 20", x.count(1, Link.ON_WAY), 2);
    }
}
