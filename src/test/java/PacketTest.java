/** The terms HOSTS, PACKET, WAY, BUFFERS, numbers and UNIT, each sentence at its edges. */
public final class PacketTest {
    public static void main(String[] args) {
        hostsAreTwo();
        anInjectedPacketHasAtMost27Bytes();
        aSentPacketHasAtMost27Bytes();
        theFirstOfAUnitIsMarked();
        noOtherOfAUnitIsMarked();
        aWayIsInOrder();
        aWayKeepsItsOrderAllTheWayRound();
        aWayHasAtMost32();
        aHostHasFourBuffers();
        injectedPacketsHoldNoBuffer();
        numbersHaveTheLowerByteFirst();
        aUnitCanBeEmpty();
        channelsAreFour();
        servicesAreNine();
        Check.end();
    }

    private static void hostsAreTwo() {
        Check.sentence("HOSTS are 0 and 1");
        for (int host = 0; host < 2; host++) {
            CreditLink x = new CreditLink();
            Check.same("connect", x.connect(host, 1, 23, 23, 0), 64);
            Check.same("packets on the other's way", x.count(1 - host, Link.ON_WAY), 1);
            Check.same("packets on its own way", x.count(host, Link.ON_WAY), 0);
        }
    }

    private static void sizesAre(CreditLink x, int host, int... due) {
        for (int i = 0; i < due.length; i++) {
            Check.same("bytes of packet " + i, x.take(host), due[i]);
        }
        Check.same("packets behind them", x.take(host), CreditLink.NONE);
    }

    private static void anInjectedPacketHasAtMost27Bytes() {
        Check.sentence("A PACKET has at most 27 bytes of a UNIT");
        CreditLink x = new CreditLink();
        Link.storeOf(x, 23);
        x.inject(0, 9, 0);
        sizesAre(x, 0, 27);
        Link.storeOf(x, 24);
        x.inject(0, 9, 0);
        sizesAre(x, 0, 27, 1);
        Link.storeOf(x, 50);
        x.inject(0, 9, 0);
        sizesAre(x, 0, 27, 27);
        Link.storeOf(x, 51);
        x.inject(0, 9, 0);
        sizesAre(x, 0, 27, 27, 1);
    }

    private static void aSentPacketHasAtMost27Bytes() {
        CreditLink x = Link.opened(100, 100, 0, 100, 100, 9);
        Link.storeOf(x, 21);
        x.send(0, 64);
        sizesAre(x, 1, 27);
        Link.storeOf(x, 22);
        x.send(0, 64);
        sizesAre(x, 1, 27, 1);
        Link.storeOf(x, 48);
        x.send(0, 64);
        sizesAre(x, 1, 27, 27);
    }

    private static void theFirstOfAUnitIsMarked() {
        Check.sentence("the first one of a UNIT is marked");
        CreditLink x = Link.opened(100, 100, 0, 100, 100, 9);
        Link.storeOf(x, 22);
        x.send(0, 64);
        x.take(1);
        x.lose(1);
        x.grant(0, 64, 1);
        x.take(1);
        Link.countsAre(x, 1, 4, 0, 0, 2, 1, 0, 0);
    }

    private static void noOtherOfAUnitIsMarked() {
        CreditLink x = Link.opened(100, 100, 0, 100, 100, 9);
        Link.storeOf(x, 22);
        x.send(0, 64);
        x.lose(1);
        x.take(1);
        Link.countsAre(x, 1, 4, 0, 0, 1, 1, 0, 0);
        Link.storeOf(x, 22);
        x.send(0, 64);
        Link.takeAll(x, 1);
        Link.countsAre(x, 1, 4, 0, 0, 2, 1, 0, 0);
    }

    private static void aWayIsInOrder() {
        Check.sentence("On the WAY to each host PACKETS are in order");
        CreditLink x = new CreditLink();
        for (int bytes = 0; bytes < 16; bytes++) {
            Link.storeOf(x, bytes);
            x.inject(bytes % 2, 9, 0);
        }
        sizesAre(x, 0, 4, 6, 8, 10, 12, 14, 16, 18);
        sizesAre(x, 1, 5, 7, 9, 11, 13, 15, 17, 19);
    }

    private static void aWayKeepsItsOrderAllTheWayRound() {
        CreditLink x = new CreditLink();
        for (int bytes = 0; bytes < 20; bytes++) {
            Link.storeOf(x, bytes);
            x.inject(0, 9, 0);
        }
        for (int bytes = 20; bytes < 90; bytes++) {
            Check.same("take", x.take(0), 4 + (bytes - 20) % 20);
            Link.storeOf(x, bytes % 20);
            x.inject(0, 9, 0);
        }
        Check.same("packets on the way", x.count(0, Link.ON_WAY), 20);
    }

    private static void aWayHasAtMost32() {
        Check.sentence("at most 32");
        CreditLink x = new CreditLink();
        for (int i = 1; i <= 32; i++) {
            Check.same("inject", x.inject(0, 9, 0), 1);
            Check.same("packets on the way", x.count(0, Link.ON_WAY), i);
        }
        Check.same("inject", x.inject(0, 9, 0), CreditLink.FULL);
        Check.same("inject on the other way", x.inject(1, 9, 0), 1);
        x.lose(0);
        Check.same("inject where one is gone", x.inject(0, 9, 0), 1);
        Check.same("inject", x.inject(0, 9, 0), CreditLink.FULL);
    }

    private static void aHostHasFourBuffers() {
        Check.sentence("at most four of them are such as the other host has sent (its BUFFERS)");
        for (int host = 0; host < 2; host++) {
            CreditLink x = Link.opened();
            for (int i = 1; i <= 4; i++) {
                x.grant(host, 64, 1);
                Link.countsAre(x, host, 4 - i, 0, 0);
                Check.same("packets on the way", x.count(1 - host, Link.ON_WAY), i);
            }
            x.grant(host, 64, 1);
            Link.countsAre(x, host, 0, 0, 1);
            Check.same("packets on the way", x.count(1 - host, Link.ON_WAY), 4);
            Check.same("buffers of the other host", x.count(1 - host, Link.FREE), 4);
        }
    }

    private static void injectedPacketsHoldNoBuffer() {
        CreditLink x = Link.opened();
        for (int i = 0; i < 10; i++) {
            x.inject(1, 9, 0);
        }
        Check.same("free buffers", x.count(0, Link.FREE), 4);
        for (int i = 0; i < 4; i++) {
            x.grant(0, 64, 1);
        }
        Check.same("packets on the way", x.count(1, Link.ON_WAY), 14);
        Check.same("free buffers", x.count(0, Link.FREE), 0);
    }

    private static void numbersHaveTheLowerByteFirst() {
        Check.sentence("Numbers of two bytes have the lower one first");
        CreditLink x = Link.lonely(100, 100, 9, 90, 23, 256, 255);
        Link.channelIs(x, 0, 64, CreditLink.OPEN, 90, 255, 9, 0, 0, 23, 256);
        Link.unit(x, 0, 64 * 256, 0, 0);
        Check.same("a unit of number 64 * 256 is DROPPED", x.count(0, Link.DROPPED), 1);
        Link.signal(x, 0, Link.CREDIT, 1, 90, 257);
        Link.channelIs(x, 0, 64, CreditLink.OPEN, 90, 512);
        Link.unit(x, 0, 64, 2, 0, 7, 8);
        Check.same("a text with the length 2, 0", x.receive(0, 64), 2);
        Link.unit(x, 0, 64, 0, 2, 7, 8);
        Link.channelIs(x, 0, 64, CreditLink.LEAVING);
    }

    private static void aUnitCanBeEmpty() {
        Check.sentence("A UNIT: a length, a number, and as many bytes as the length says");
        CreditLink x = new CreditLink();
        Check.same("inject of an empty store", x.inject(0, 9, 0), 1);
        Check.same("take", x.take(0), 4);
        Link.countsAre(x, 0, 4, 0, 0, 1, 1, 0, 0);
        Check.same("inject with a length of 1", x.inject(0, 9, 1), 1);
        Check.same("take", x.take(0), 4);
        Link.countsAre(x, 0, 4, 0, 0, 1, 1, 0, 4);
    }

    private static void channelsAreFour() {
        Check.sentence("CHANNELS 64 .. 67 of each host");
        CreditLink x = new CreditLink();
        for (int host = 0; host < 2; host++) {
            for (int channel = 64; channel <= 67; channel++) {
                Check.same("connect", x.connect(host, 1, 23, 23, 0), channel);
            }
            Check.same("connect", x.connect(host, 1, 23, 23, 0), CreditLink.FULL);
        }
    }

    private static void servicesAreNine() {
        Check.sentence("SERVICES 1 .. 9 of a host, once told, have MTU, MPS and first credits");
        for (int service = 1; service <= 9; service++) {
            CreditLink x = new CreditLink();
            x.service(1, service, 40 + service, 50 + service, 60 + service);
            Check.same("connect to another one", x.connect(0, service % 9 + 1, 23, 23, 0), 64);
            Link.settle(x);
            Link.channelIs(x, 0, 64, CreditLink.CLOSED);
            x.connect(0, service, 23, 23, 0);
            Link.settle(x);
            Link.channelIs(x, 0, 64,
                    CreditLink.OPEN, 64, 60 + service, 0, 0, 0, 40 + service, 50 + service);
        }
    }
}
