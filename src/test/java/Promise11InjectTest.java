/** Promise 11: the store comes to a way as packets of one unit. */
public final class Promise11InjectTest {
    public static void main(String[] args) {
        cutsIntoPackets();
        isOneUnit();
        hasALengthThatIsMore();
        isFullAbove32();
        leavesTheWayFullForSending();
        refusesWrongNumbers();
        Check.end();
    }

    private static void cutsIntoPackets() {
        int[] sizes = {0, 1, 23, 24, 50, 51, 77, 78, 104, 105, 120};
        int[] packets = {1, 1, 1, 2, 2, 3, 3, 4, 4, 5, 5};
        for (int i = 0; i < sizes.length; i++) {
            CreditLink x = new CreditLink();
            Link.storeOf(x, sizes[i]);
            Check.same("inject of " + sizes[i], x.inject(0, 9, 0), packets[i]);
            Check.same("packets on the way", x.count(0, Link.ON_WAY), packets[i]);
            Check.same("free buffers", x.count(1, Link.FREE), 4);
            Check.same("packets taken", Link.takeAll(x, 0), packets[i]);
            Check.same("units", x.count(0, Link.UNITS), 1);
            Check.same("the store stays", x.erase(), sizes[i]);
        }
    }

    private static void isOneUnit() {
        CreditLink x = Link.lonely(100, 100, 9, 90, 23, 23, 0);
        int[] text = new int[92];
        text[0] = 90;
        for (int i = 2; i < text.length; i++) {
            text[i] = 255 - i;
        }
        Link.unit(x, 0, 64, text);
        Check.same("receive", x.receive(0, 64), 90);
        for (int k = 0; k < 90; k++) {
            Check.same("octet(" + k + ")", x.octet(k), 253 - k);
        }
        x.erase();
        Check.same("number 0", x.inject(0, 0, 0), 1);
        Check.same("number 65535", x.inject(0, 65535, 0), 1);
        Link.takeAll(x, 0);
        Check.same("DROPPED", x.count(0, Link.DROPPED), 2);
    }

    private static void hasALengthThatIsMore() {
        CreditLink x = new CreditLink();
        Link.storeOf(x, 10);
        x.inject(0, 9, 100);
        x.take(0);
        Link.countsAre(x, 0, 4, 0, 0, 0, 0, 0, 14);
        Link.storeOf(x, 120);
        x.inject(0, 9, 0);
        x.lose(0);
        Link.takeAll(x, 0);
        Check.same("100 bytes more were not too many", x.count(0, Link.GATHERED), 111);
    }

    private static void isFullAbove32() {
        CreditLink x = new CreditLink();
        Link.storeOf(x, 120);
        for (int i = 0; i < 6; i++) {
            Check.same("inject", x.inject(1, 9, 0), 5);
        }
        String before = Link.picture(x);
        Check.same("inject", x.inject(1, 9, 0), CreditLink.FULL);
        Check.same("the state after FULL", Link.picture(x), before);
        Link.storeOf(x, 24);
        Check.same("inject", x.inject(1, 9, 0), 2);
        x.erase();
        Check.same("inject", x.inject(1, 9, 0), CreditLink.FULL);
        Check.same("inject on the other way", x.inject(0, 9, 0), 1);
        x.take(1);
        Check.same("inject", x.inject(1, 9, 0), 1);
    }

    private static void leavesTheWayFullForSending() {
        CreditLink x = new CreditLink();
        for (int i = 0; i < 32; i++) {
            x.inject(1, 9, 0);
        }
        x.connect(0, 1, 23, 23, 0);
        Link.countsAre(x, 0, 4, 0, 1);
        x.take(1);
        Link.countsAre(x, 0, 3, 0, 0);
        Link.countsAre(x, 1, 4, 32);
    }

    private static void refusesWrongNumbers() {
        CreditLink x = new CreditLink();
        Link.storeOf(x, 3);
        Check.argument("host -1", x, () -> x.inject(-1, 5, 0));
        Check.argument("host 2", x, () -> x.inject(2, 5, 0));
        Check.argument("number -1", x, () -> x.inject(0, -1, 0));
        Check.argument("number 65536", x, () -> x.inject(0, 65536, 0));
        Check.argument("more -1", x, () -> x.inject(0, 5, -1));
        Check.argument("more 101", x, () -> x.inject(0, 5, 101));
    }
}
