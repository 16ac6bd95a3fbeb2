/** The term SENDING: what goes first, in how many packets, and by whose credits. */
public final class SendingTest {
    public static void main(String[] args) {
        cutsTextsIntoSegments();
        usesFourBuffers();
        goesRound();
        signalsGoBeforeSegments();
        goesOnFromWhereItHasCome();
        takesFarsWords();
        keepsTheRoundWhenAChannelCloses();
        Check.end();
    }

    private static void cutsTextsIntoSegments() {
        CreditLink x = Link.opened(100, 100, 0, 100, 23, 10);
        Link.storeOf(x, 44);
        x.send(0, 64);
        int[] due = {27, 27};
        for (int i = 0; i < due.length; i++) {
            Check.same("take", x.take(1), due[i]);
        }
        Check.same("take", x.take(1), CreditLink.NONE);
        Link.channelIs(x, 0, 64, CreditLink.OPEN, 64, 8, 0, 0);
        Link.channelIs(x, 1, 64, CreditLink.OPEN, 64, 0, 8, 0, 1);
        x.receive(1, 64);
        for (int k = 0; k < 44; k++) {
            Check.same("octet(" + k + ")", x.octet(k), k + 1);
        }
        Link.storeOf(x, 45);
        x.send(0, 64);
        Check.same("three packets", Link.takeAll(x, 1), 3);
        Check.same("receive", x.receive(1, 64), 45);
        Check.same("octet(44)", x.octet(44), 45);
    }

    private static void usesFourBuffers() {
        CreditLink x = Link.opened(100, 100, 0, 100, 100, 10);
        Link.storeOf(x, 98);
        x.send(0, 64);
        Link.countsAre(x, 0, 0);
        Link.storeOf(x, 98);
        Check.same("send", x.send(0, 64), 1);
        Link.storeOf(x, 98);
        Check.same("send", x.send(0, 64), 2);
        Link.channelIs(x, 0, 64, CreditLink.OPEN, 64, 9, 0, 2);
        Check.same("take", x.take(1), 27);
        Link.channelIs(x, 0, 64, CreditLink.OPEN, 64, 8, 0, 1);
        Link.countsAre(x, 1, 4, 4);
        Check.same("packets", Link.takeAll(x, 1), 11);
        Check.same("RECEIVED", x.channel(1, 64, Link.RECEIVED), 3);
    }

    /** Three channels of host 0 towards three of host 1, each with some credits. */
    private static CreditLink three(int credits) {
        CreditLink x = new CreditLink();
        x.service(1, 1, 100, 23, credits);
        for (int i = 0; i < 3; i++) {
            x.connect(0, 1, 23, 23, 0);
        }
        Link.settle(x);
        return x;
    }

    /** Nothing more goes to host 1 until it takes something. */
    private static void block(CreditLink x) {
        x.erase();
        while (x.inject(1, 9, 0) != CreditLink.FULL) {
            continue;
        }
    }

    /** Which channels of host 1 get a segment, told by GIVEN, as one packet after the other comes. */
    private static String order(CreditLink x) {
        StringBuilder all = new StringBuilder();
        for (int i = 0; i < 60; i++) {
            int[] before = {given(x, 64), given(x, 65), given(x, 66), given(x, 67)};
            if (x.take(1) == CreditLink.NONE) {
                break;
            }
            for (int k = 0; k < 4; k++) {
                all.append(given(x, 64 + k) < before[k] ? "" + (64 + k) + " " : "");
            }
        }
        return all.toString();
    }

    private static int given(CreditLink x, int channel) {
        return x.channel(1, channel, Link.GIVEN);
    }

    private static void goesRound() {
        CreditLink x = three(4);
        block(x);
        for (int channel = 66; channel >= 64; channel--) {
            Link.storeOf(x, channel == 65 ? 10 : 30);
            x.send(0, channel);
            x.send(0, channel);
        }
        Check.same("from 64 on at first", order(x), "64 65 66 64 65 66 64 66 ");
        block(x);
        x.send(0, 64);
        x.send(0, 65);
        Check.same("from 67 on then", order(x), "64 65 ");
        block(x);
        x.send(0, 64);
        x.send(0, 66);
        Check.same("66 has a credit, 64 has none", order(x), "66 ");
        x.grant(1, 64, 1);
        x.take(0);
        Check.same("64 has a credit", order(x), "64 ");
    }

    private static void keepsTheRoundWhenAChannelCloses() {
        CreditLink x = three(9);
        x.send(0, 65);
        x.leave(0, 65);
        Link.settle(x);
        block(x);
        x.send(0, 64);
        x.send(0, 66);
        Check.same("from 66 on", order(x), "66 64 ");
    }

    private static void signalsGoBeforeSegments() {
        CreditLink x = Link.opened(23, 23, 0, 100, 23, 10);
        for (int i = 0; i < 4; i++) {
            x.grant(0, 64, 1);
        }
        Link.storeOf(x, 5);
        x.send(0, 64);
        x.grant(0, 64, 1);
        Link.countsAre(x, 0, 0, 0, 1);
        int[] due = {12, 12, 12, 12, 12, 11};
        for (int i = 0; i < due.length; i++) {
            Check.same("take", x.take(1), due[i]);
        }
        Link.channelIs(x, 1, 64, CreditLink.OPEN, 64, 5, 9, 0, 1);
    }

    private static void goesOnFromWhereItHasCome() {
        CreditLink x = Link.opened(23, 23, 0, 100, 23, 1);
        Link.storeOf(x, 60);
        x.send(0, 64);
        Link.settle(x);
        Link.channelIs(x, 0, 64, CreditLink.OPEN, 64, 0, 0, 1);
        for (int i = 0; i < 2; i++) {
            Check.same("receive", x.receive(1, 64), CreditLink.NONE);
            x.grant(1, 64, 1);
            Link.settle(x);
        }
        Link.channelIs(x, 0, 64, CreditLink.OPEN, 64, 0, 0, 0);
        Check.same("receive", x.receive(1, 64), 60);
        for (int k = 0; k < 60; k++) {
            Check.same("octet(" + k + ")", x.octet(k), k + 1);
        }
    }

    /** FAR's MTU and MPS may be as high as a signal can tell. */
    private static void takesFarsWords() {
        CreditLink x = Link.lonely(23, 23, 0, 127, 65535, 65535, 65535);
        Link.storeOf(x, 120);
        Check.same("send", x.send(0, 64), 1);
        Link.channelIs(x, 0, 64, CreditLink.OPEN, 127, 65534, 0, 0, 0, 65535, 65535);
        int[] due = {27, 27, 27, 27, 18};
        for (int i = 0; i < due.length; i++) {
            Check.same("take", x.take(1), due[i]);
        }
        Link.countsAre(x, 1, 4, 0, 0, 1, 1, 0, 0);
    }
}
