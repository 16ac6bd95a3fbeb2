/** Promise 5: the store is empty: how many bytes it had. */
public final class Promise05EraseTest {
    public static void main(String[] args) {
        tellsHowManyItHad();
        anEmptyStoreStaysEmpty();
        nothingOfItIsLeft();
        Check.end();
    }

    private static void tellsHowManyItHad() {
        Check.sentence("how many bytes it had");
        int[] sizes = {0, 1, 16, 119, 120};
        for (int size : sizes) {
            CreditLink x = new CreditLink();
            Link.storeOf(x, size);
            Check.same("erase", x.erase(), size);
        }
    }

    private static void anEmptyStoreStaysEmpty() {
        CreditLink x = new CreditLink();
        Check.same("erase", x.erase(), 0);
        Check.same("erase", x.erase(), 0);
        Check.same("octet(0)", x.octet(0), CreditLink.NONE);
    }

    private static void nothingOfItIsLeft() {
        Check.sentence("THE STORE is empty");
        CreditLink x = new CreditLink();
        Link.storeOf(x, 120);
        x.erase();
        Check.same("octet(0)", x.octet(0), CreditLink.NONE);
        Check.same("octet(119)", x.octet(119), CreditLink.NONE);
        Check.same("feed", x.feed(3, 0x07080900, 0, 0, 0), 3);
        Check.same("octet(0)", x.octet(0), 7);
        Check.same("octet(3)", x.octet(3), CreditLink.NONE);
        Check.same("erase", x.erase(), 3);
    }
}
