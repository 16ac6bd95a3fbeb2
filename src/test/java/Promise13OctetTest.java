/** Promise 13: byte k of the store; NONE. */
public final class Promise13OctetTest {
    public static void main(String[] args) {
        tellsEachByte();
        isNoneBehindTheLast();
        isNoneBeforeTheFirst();
        isNoneInAnEmptyStore();
        Check.end();
    }

    private static void tellsEachByte() {
        Check.sentence("Byte k of THE STORE");
        CreditLink x = new CreditLink();
        for (int value = 0; value < 256; value++) {
            Link.store(x, value);
            Check.same("octet(0)", x.octet(0), value);
            x = value % 100 == 99 ? new CreditLink() : x;
        }
        Link.storeOf(x, 120);
        Check.same("octet(0)", x.octet(0), 1);
        Check.same("octet(119)", x.octet(119), 120);
    }

    private static void isNoneBehindTheLast() {
        Check.sentence("Byte k of THE STORE; NONE");
        CreditLink x = new CreditLink();
        Link.store(x, 0, 127, 128, 255);
        Check.same("octet(3)", x.octet(3), 255);
        Check.same("octet(4)", x.octet(4), CreditLink.NONE);
        Check.same("octet(highest)", x.octet(Integer.MAX_VALUE), CreditLink.NONE);
        Link.storeOf(x, 120);
        Check.same("octet(120)", x.octet(120), CreditLink.NONE);
    }

    private static void isNoneBeforeTheFirst() {
        CreditLink x = new CreditLink();
        Link.storeOf(x, 120);
        Check.same("octet(-1)", x.octet(-1), CreditLink.NONE);
        Check.same("octet(-120)", x.octet(-120), CreditLink.NONE);
        Check.same("octet(lowest)", x.octet(Integer.MIN_VALUE), CreditLink.NONE);
    }

    private static void isNoneInAnEmptyStore() {
        CreditLink x = new CreditLink();
        Check.same("octet(0)", x.octet(0), CreditLink.NONE);
        Link.storeOf(x, 9);
        x.erase();
        Check.same("octet(0)", x.octet(0), CreditLink.NONE);
    }
}
