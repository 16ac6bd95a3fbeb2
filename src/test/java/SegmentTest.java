/** The term SEGMENT: what a channel takes, and when it leaves. */
public final class SegmentTest {
    public static void main(String[] args) {
        leavesWithoutCredits();
        leavesForALengthOfNoneOrAboveItsMps();
        leavesForAWrongBeginning();
        leavesForTooManyBytes();
        leavesWithFourReceived();
        keepsWholeTexts();
        dropsUnitsOfOtherNumbers();
        leavingTellsTheOtherSide();
        Check.end();
    }

    private static final int FAR = 90;

    private static CreditLink open(int mtu, int mps, int given) {
        return Link.lonely(mtu, mps, given, FAR, 23, 23, 0);
    }

    private static void is(CreditLink x, int state, int given, int received) {
        Link.channelIs(x, 0, 64, state, FAR, 0, given, 0, received);
        Check.same("signals 6", x.count(1, Link.ON_WAY), state == CreditLink.LEAVING ? 1 : 0);
    }

    private static void leavesWithoutCredits() {
        CreditLink x = open(30, 30, 1);
        Link.unit(x, 0, 64, 3, 0, 1);
        is(x, CreditLink.OPEN, 0, 0);
        Link.unit(x, 0, 64, 2, 3);
        is(x, CreditLink.LEAVING, 0, 0);
    }

    private static void leavesForALengthOfNoneOrAboveItsMps() {
        CreditLink x = open(30, 23, 5);
        Link.unit(x, 0, 64);
        is(x, CreditLink.LEAVING, 5, 0);
        CreditLink y = open(30, 23, 5);
        int[] bytes = new int[24];
        bytes[0] = 30;
        Link.unit(y, 0, 64, bytes);
        is(y, CreditLink.LEAVING, 5, 0);
        CreditLink z = open(30, 24, 5);
        Link.unit(z, 0, 64, bytes);
        is(z, CreditLink.OPEN, 4, 0);
        Link.unit(z, 0, 64);
        is(z, CreditLink.LEAVING, 4, 0);
    }

    private static void leavesForAWrongBeginning() {
        CreditLink x = open(30, 30, 5);
        Link.unit(x, 0, 64, 0);
        is(x, CreditLink.LEAVING, 4, 0);
        CreditLink y = open(30, 30, 5);
        Link.unit(y, 0, 64, 31, 0);
        is(y, CreditLink.LEAVING, 4, 0);
        CreditLink z = open(30, 30, 5);
        Link.unit(z, 0, 64, 1, 1, 5);
        is(z, CreditLink.LEAVING, 4, 0);
        CreditLink w = open(30, 30, 5);
        Link.unit(w, 0, 64, 30, 0);
        is(w, CreditLink.OPEN, 4, 0);
        Link.unit(w, 0, 64, 7);
        is(w, CreditLink.OPEN, 3, 0);
    }

    private static void leavesForTooManyBytes() {
        CreditLink x = open(30, 30, 5);
        Link.unit(x, 0, 64, 1, 0, 8, 9);
        is(x, CreditLink.LEAVING, 4, 0);
        CreditLink y = open(30, 30, 5);
        Link.unit(y, 0, 64, 0, 0, 8);
        is(y, CreditLink.LEAVING, 4, 0);
        CreditLink z = open(30, 30, 5);
        Link.unit(z, 0, 64, 3, 0, 8);
        Link.unit(z, 0, 64, 7, 6, 5);
        is(z, CreditLink.LEAVING, 3, 0);
    }

    private static void leavesWithFourReceived() {
        CreditLink x = open(30, 30, 9);
        for (int i = 0; i < 4; i++) {
            Link.unit(x, 0, 64, 1, 0, i);
        }
        is(x, CreditLink.OPEN, 5, 4);
        Link.unit(x, 0, 64, 2, 0, 7);
        is(x, CreditLink.OPEN, 4, 4);
        Link.unit(x, 0, 64, 8);
        is(x, CreditLink.LEAVING, 3, 4);
        CreditLink y = open(30, 30, 9);
        for (int i = 0; i < 4; i++) {
            Link.unit(y, 0, 64, 0, 0);
        }
        Link.unit(y, 0, 64, 2, 0, 7);
        y.receive(0, 64);
        Link.unit(y, 0, 64, 8);
        is(y, CreditLink.OPEN, 3, 4);
    }

    private static void keepsWholeTexts() {
        CreditLink x = open(100, 100, 9);
        Link.unit(x, 0, 64, 0, 0);
        Link.unit(x, 0, 64, 3, 0);
        Link.unit(x, 0, 64, 200, 201);
        Link.unit(x, 0, 64, 202);
        is(x, CreditLink.OPEN, 5, 2);
        Check.same("receive", x.receive(0, 64), 0);
        Check.same("receive", x.receive(0, 64), 3);
        for (int k = 0; k < 3; k++) {
            Check.same("octet", x.octet(k), 200 + k);
        }
        int[] bytes = new int[100];
        bytes[0] = 100;
        bytes[99] = 77;
        Link.unit(x, 0, 64, bytes);
        Link.unit(x, 0, 64, 78, 79);
        Check.same("receive", x.receive(0, 64), 100);
        Check.same("octet", x.octet(97), 77);
        Check.same("octet", x.octet(99), 79);
    }

    private static void dropsUnitsOfOtherNumbers() {
        CreditLink x = open(30, 30, 9);
        int[] numbers = {0, 4, 6, 63, 65, 66, 67, 68, FAR, 64 + 256, 65535};
        for (int i = 0; i < numbers.length; i++) {
            Link.unit(x, 0, numbers[i], 1, 0, 5);
            Link.countsAre(x, 0, 4, 0, 0, i + 2, i + 1, 0, 0);
        }
        is(x, CreditLink.OPEN, 9, 0);
        x.leave(0, 64);
        Link.unit(x, 0, 64, 1, 0, 5);
        is(x, CreditLink.LEAVING, 9, 0);
        x.connect(0, 1, 23, 23, 5);
        Link.unit(x, 0, 65, 1, 0, 5);
        Link.channelIs(x, 0, 65, CreditLink.ASKED, 0, 0, 5, 0, 0);
        Check.same("DROPPED", x.count(0, Link.DROPPED), numbers.length + 2);
    }

    /** A segment out of nowhere breaks a channel between two hosts: both sides close. */
    private static void leavingTellsTheOtherSide() {
        CreditLink x = new CreditLink();
        x.service(1, 3, 40, 25, 2);
        x.connect(1, 1, 23, 23, 0);
        x.connect(0, 3, 50, 23, 1);
        x.take(1);
        Link.channelIs(x, 1, 65, CreditLink.OPEN, 64);
        Link.settle(x);
        Link.channelIs(x, 0, 64, CreditLink.OPEN, 65);
        Link.unit(x, 0, 64);
        Link.channelIs(x, 0, 64, CreditLink.LEAVING, 65);
        Check.same("take", x.take(1), 12);
        Link.channelIs(x, 1, 65, CreditLink.CLOSED);
        Check.same("take", x.take(0), 12);
        Link.channelIs(x, 0, 64, CreditLink.CLOSED);
        Check.same("REJECTED", x.count(0, Link.REJECTED) + x.count(1, Link.REJECTED), 0);
    }
}
