/** Promise 13: byte k of the store; NONE. */
public final class Promise13OctetTest {
    public static void main(String[] args) {
        CreditLink x = new CreditLink();
        Check.same("octet(0)", x.octet(0), CreditLink.NONE);
        Link.store(x, 0, 127, 128, 255);
        Check.same("octet(0)", x.octet(0), 0);
        Check.same("octet(1)", x.octet(1), 127);
        Check.same("octet(2)", x.octet(2), 128);
        Check.same("octet(3)", x.octet(3), 255);
        Check.same("octet(4)", x.octet(4), CreditLink.NONE);
        Check.same("octet(-1)", x.octet(-1), CreditLink.NONE);
        Check.same("octet(lowest)", x.octet(Integer.MIN_VALUE), CreditLink.NONE);
        Check.same("octet(highest)", x.octet(Integer.MAX_VALUE), CreditLink.NONE);
        Link.storeOf(x, 120);
        Check.same("octet(119)", x.octet(119), 120);
        Check.same("octet(120)", x.octet(120), CreditLink.NONE);
        Check.end();
    }
}
