/** Promise 5: the store is empty: how many bytes it had. */
public final class Promise05EraseTest {
    public static void main(String[] args) {
        CreditLink x = new CreditLink();
        Check.same("erase", x.erase(), 0);
        Link.storeOf(x, 120);
        Check.same("erase", x.erase(), 120);
        Check.same("octet(0)", x.octet(0), CreditLink.NONE);
        Check.same("erase", x.erase(), 0);
        Check.same("feed", x.feed(3, 0x07080900, 0, 0, 0), 3);
        Check.same("octet(0)", x.octet(0), 7);
        Check.same("octet(3)", x.octet(3), CreditLink.NONE);
        Check.same("erase", x.erase(), 3);
        Check.end();
    }
}
