import java.util.Arrays;

/** The term SENDING, each sentence at its edges: what goes, when, and what goes first. */
public final class SendingTest {
    public static void main(String[] args) {
        needsAFreeBuffer();
        needsAWayWithFewerThan32();
        theBegunUnitGoesFirst();
        thenTheSignalThatHasWaitedLongest();
        signalsGoBeforeSegments();
        goesRoundFrom64OnAtFirst();
        goesRoundFrom67To64();
        goesOnBehindAChannelThatClosed();
        passesOverAChannelWithoutAText();
        passesOverAChannelWithoutCredits();
        passesOverAChannelThatIsNotOpen();
        aSegmentUsesACredit();
        aSegmentHasAtMostFarsMps();
        aTextBeginsWithItsLength();
        aTextGoesOnFromWhereItHasCome();
        aTextIsGoneWithItsLastSegment();
        farsNumbersMayBeTheHighest();
        Check.end();
    }

    private static void needsAFreeBuffer() {
        Check.sentence("a BUFFER of the host is free");
        CreditLink x = Link.opened();
        for (int i = 0; i < 6; i++) {
            x.grant(0, 64, 1);
        }
        Link.countsAre(x, 0, 0, 0, 2);
        x.take(1);
        Link.countsAre(x, 0, 0, 0, 1);
        x.lose(1);
        Link.countsAre(x, 0, 0, 0, 0);
        Link.countsAre(x, 1, 4, 4);
        x.take(1);
        Link.countsAre(x, 0, 1, 0, 0);
    }

    private static void needsAWayWithFewerThan32() {
        Check.sentence("the WAY to the other one has fewer than 32");
        CreditLink x = Link.opened();
        for (int i = 0; i < 31; i++) {
            x.inject(1, 9, 0);
        }
        x.grant(0, 64, 1);
        Link.countsAre(x, 0, 3, 0, 0);
        Check.same("packets on the way", x.count(1, Link.ON_WAY), 32);
        x.grant(0, 64, 1);
        Link.countsAre(x, 0, 3, 0, 1);
        Check.same("packets on the way", x.count(1, Link.ON_WAY), 32);
        x.take(1);
        Link.countsAre(x, 0, 2, 0, 0);
        Check.same("packets on the way", x.count(1, Link.ON_WAY), 32);
    }

    private static void sizesAre(CreditLink x, int host, int... due) {
        for (int i = 0; i < due.length; i++) {
            Check.same("bytes of packet " + i, x.take(host), due[i]);
        }
        Check.same("packets behind them", x.take(host), CreditLink.NONE);
    }

    private static void theBegunUnitGoesFirst() {
        Check.sentence("what is left of the UNIT that was begun; else the SIGNAL");
        CreditLink x = Link.lonely(23, 23, 0, 90, 120, 200, 9);
        Link.storeOf(x, 120);
        x.send(0, 64);
        Link.countsAre(x, 0, 0, 0, 0);
        x.grant(0, 64, 1);
        Link.countsAre(x, 0, 0, 0, 1);
        sizesAre(x, 1, 27, 27, 27, 27, 18, 12);
    }

    private static void thenTheSignalThatHasWaitedLongest() {
        Check.sentence("the SIGNAL that has waited longest");
        CreditLink x = Link.opened();
        Link.block(x, 1);
        x.grant(0, 64, 1);
        x.connect(0, 9, 23, 23, 0);
        x.grant(0, 64, 1);
        Link.unit(x, 0, 5, 99, 9, 0, 0);
        x.connect(0, 9, 23, 23, 0);
        Link.countsAre(x, 0, 4, 0, 5);
        for (int i = 0; i < 32; i++) {
            Check.same("an injected packet", x.take(1), 4);
        }
        sizesAre(x, 1, 12, 18, 12, 10, 18);
    }

    private static void signalsGoBeforeSegments() {
        Check.sentence("the SIGNAL that has waited longest; else, of its CHANNELS");
        CreditLink x = Link.opened(23, 23, 0, 100, 23, 10);
        Link.block(x, 1);
        Link.storeOf(x, 5);
        x.send(0, 64);
        x.grant(0, 64, 1);
        x.grant(0, 64, 1);
        for (int i = 0; i < 32; i++) {
            x.take(1);
        }
        sizesAre(x, 1, 12, 12, 11);
    }

    /** Four channels of host 0 towards four of host 1, which gave each of them some credits. */
    private static CreditLink four(int credits) {
        CreditLink x = new CreditLink();
        x.service(1, 1, 100, 23, credits);
        for (int i = 0; i < 4; i++) {
            x.connect(0, 1, 23, 23, 0);
        }
        Link.settle(x);
        return x;
    }

    private static void sendOn(CreditLink x, int bytes, int... channels) {
        for (int channel : channels) {
            Link.storeOf(x, bytes);
            x.send(0, channel);
        }
    }

    /** Which channels of host 1 get a segment, told by GIVEN: one packet after the other is taken. */
    private static String order(CreditLink x) {
        StringBuilder all = new StringBuilder();
        int[] before = new int[4];
        for (int i = 0; i < 60; i++) {
            for (int k = 0; k < 4; k++) {
                int given = x.channel(1, 64 + k, Link.GIVEN);
                all.append(given == before[k] - 1 ? 64 + k + " " : "");
                before[k] = given;
            }
            if (x.take(1) == CreditLink.NONE) {
                break;
            }
        }
        return all.toString();
    }

    private static void goesRoundFrom64OnAtFirst() {
        Check.sentence("from the one behind that which did so last (from 64 on at first)");
        CreditLink x = four(9);
        Link.block(x, 1);
        sendOn(x, 30, 67, 66, 65, 64);
        Check.same("from 64 on", order(x), "64 65 66 67 64 65 66 67 ");
        CreditLink y = four(9);
        Link.block(y, 1);
        sendOn(y, 1, 66, 65);
        Check.same("the first of them behind 64", order(y), "65 66 ");
    }

    private static void goesRoundFrom67To64() {
        Check.sentence("round, from the one behind that which did so last");
        CreditLink x = four(9);
        sendOn(x, 1, 67);
        Link.block(x, 1);
        sendOn(x, 1, 67, 64);
        Check.same("behind 67 comes 64", order(x), "67 64 67 ");
        CreditLink y = four(9);
        sendOn(y, 1, 65);
        Link.block(y, 1);
        sendOn(y, 1, 64, 65, 66, 67);
        Check.same("behind 65 comes 66", order(y), "65 66 67 64 65 ");
        CreditLink z = four(9);
        Link.block(z, 1);
        sendOn(z, 1, 66, 66);
        Check.same("66 alone", order(z), "66 66 ");
    }

    private static void goesOnBehindAChannelThatClosed() {
        CreditLink x = four(9);
        sendOn(x, 1, 65);
        x.leave(0, 65);
        Link.settle(x);
        Link.block(x, 1);
        sendOn(x, 1, 64, 67, 66);
        Check.same("behind 65 comes 66", order(x), "66 67 64 ");
    }

    private static void passesOverAChannelWithoutAText() {
        Check.sentence("the first that is OPEN, has a TEXT and CREDITS");
        CreditLink x = four(9);
        Link.block(x, 1);
        sendOn(x, 1, 65, 67, 67);
        Check.same("64 and 66 have none", order(x), "65 67 67 ");
    }

    private static void passesOverAChannelWithoutCredits() {
        CreditLink x = four(1);
        sendOn(x, 1, 64);
        Link.takeAll(x, 1);
        Link.channelIs(x, 0, 64, CreditLink.OPEN, 64, 0);
        sendOn(x, 1, 64);
        Link.countsAre(x, 0, 4, 0, 0);
        Link.block(x, 1);
        sendOn(x, 1, 66);
        Check.same("64 has no credits", order(x), "66 ");
        Link.channelIs(x, 0, 64, CreditLink.OPEN, 64, 0, 0, 1);
        x.grant(1, 64, 1);
        x.take(0);
        Check.same("64 has a credit", order(x), "64 ");
        Link.channelIs(x, 0, 64, CreditLink.OPEN, 64, 0, 0, 0);
    }

    private static void passesOverAChannelThatIsNotOpen() {
        CreditLink x = four(9);
        Link.block(x, 1);
        sendOn(x, 1, 64, 65);
        x.leave(0, 64);
        Link.channelIs(x, 0, 64, CreditLink.LEAVING, 64, 9, 0, 0);
        Check.same("64 is LEAVING", order(x), "65 ");
    }

    private static void aSegmentUsesACredit() {
        Check.sentence("its next SEGMENT, a UNIT of FAR's number, and a credit less");
        CreditLink x = four(2);
        sendOn(x, 22, 64);
        Link.channelIs(x, 0, 64, CreditLink.OPEN, 64, 0, 0, 0);
        sendOn(x, 0, 65);
        Link.channelIs(x, 0, 65, CreditLink.OPEN, 65, 1, 0, 0);
        Link.takeAll(x, 1);
        Link.channelIs(x, 1, 64, CreditLink.OPEN, 64, 0, 0, 0, 1);
        Link.channelIs(x, 1, 65, CreditLink.OPEN, 65, 0, 1, 0, 1);
    }

    private static void aSegmentHasAtMostFarsMps() {
        Check.sentence("as many bytes as FAR's MPS");
        int[][] due = {{21, 27}, {22, 27, 5}, {44, 27, 27}, {45, 27, 27, 5}};
        for (int[] row : due) {
            CreditLink x = Link.opened(100, 100, 0, 100, 23, 9);
            sendOn(x, row[0], 64);
            sizesAre(x, 1, Arrays.copyOfRange(row, 1, row.length));
            Check.same("receive", x.receive(1, 64), row[0]);
            for (int k = 0; k < row[0]; k++) {
                Check.same("octet(" + k + ")", x.octet(k), k + 1);
            }
        }
        CreditLink y = Link.opened(23, 23, 0, 100, 24, 9);
        sendOn(y, 22, 64);
        sizesAre(y, 1, 27, 1);
        Link.channelIs(y, 0, 64, CreditLink.OPEN, 64, 8);
    }

    private static void aTextBeginsWithItsLength() {
        Check.sentence("of the TEXT's length (two bytes) and the TEXT");
        CreditLink x = Link.opened();
        x.send(0, 64);
        sizesAre(x, 1, 6);
        Check.same("receive of an empty text", x.receive(1, 64), 0);
        sendOn(x, 1, 64);
        sizesAre(x, 1, 7);
        Check.same("receive", x.receive(1, 64), 1);
    }

    private static void aTextGoesOnFromWhereItHasCome() {
        Check.sentence("from where it has come");
        CreditLink x = Link.opened(23, 23, 0, 100, 23, 1);
        sendOn(x, 60, 64);
        Link.settle(x);
        for (int i = 0; i < 2; i++) {
            Check.same("receive", x.receive(1, 64), CreditLink.NONE);
            x.grant(1, 64, 1);
            Link.settle(x);
        }
        Check.same("receive", x.receive(1, 64), 60);
        for (int k = 0; k < 60; k++) {
            Check.same("octet(" + k + ")", x.octet(k), k + 1);
        }
        x.grant(1, 64, 1);
        x.take(0);
        sendOn(x, 2, 64);
        Link.settle(x);
        Check.same("the next text begins anew", x.receive(1, 64), 2);
        Check.same("octet(0)", x.octet(0), 1);
    }

    private static void aTextIsGoneWithItsLastSegment() {
        Check.sentence("A TEXT is gone with its last SEGMENT");
        CreditLink x = Link.opened(23, 23, 0, 100, 23, 1);
        sendOn(x, 44, 64);
        Link.channelIs(x, 0, 64, CreditLink.OPEN, 64, 0, 0, 1);
        x.grant(1, 64, 1);
        x.take(0);
        Link.channelIs(x, 0, 64, CreditLink.OPEN, 64, 0, 0, 0);
        CreditLink y = Link.opened(23, 23, 0, 100, 23, 1);
        sendOn(y, 45, 64);
        y.grant(1, 64, 1);
        y.take(0);
        Link.channelIs(y, 0, 64, CreditLink.OPEN, 64, 0, 0, 1);
    }

    private static void farsNumbersMayBeTheHighest() {
        Check.sentence("as many bytes as FAR's MPS, of the TEXT's length (two bytes) and the TEXT");
        CreditLink x = Link.lonely(23, 23, 0, 127, 65535, 65535, 65535);
        sendOn(x, 120, 64);
        Link.channelIs(x, 0, 64, CreditLink.OPEN, 127, 65534, 0, 0, 0, 65535, 65535);
        sizesAre(x, 1, 27, 27, 27, 27, 18);
        Link.countsAre(x, 1, 4, 0, 0, 1, 1, 0, 0);
    }
}
