/** Promise 4: bytes more in the store, four in each number, the highest first. */
public final class Promise04FeedTest {
    public static void main(String[] args) {
        takesTheHighestFirst();
        takesAsManyAsTold();
        holdsOneHundredAndTwenty();
        refusesWrongNumbers();
        Check.end();
    }

    private static void takesTheHighestFirst() {
        CreditLink x = new CreditLink();
        Check.same("feed", x.feed(16, 0x01020304, 0x05060708, 0x090a0b0c, 0x0d0e0f10), 16);
        for (int k = 0; k < 16; k++) {
            Check.same("octet(" + k + ")", x.octet(k), k + 1);
        }
        Check.same("feed", x.feed(4, 0xfffe8000, 0, 0, 0), 20);
        Check.same("octet(16)", x.octet(16), 255);
        Check.same("octet(17)", x.octet(17), 254);
        Check.same("octet(18)", x.octet(18), 128);
        Check.same("octet(19)", x.octet(19), 0);
    }

    private static void takesAsManyAsTold() {
        for (int many = 0; many <= 16; many++) {
            CreditLink x = new CreditLink();
            Check.same("feed", x.feed(many, 0x01020304, 0x05060708, 0x090a0b0c, 0x0d0e0f10), many);
            Check.same("the byte behind", x.octet(many), CreditLink.NONE);
            Check.same("the last one", x.octet(many - 1), many == 0 ? CreditLink.NONE : many);
        }
    }

    private static void holdsOneHundredAndTwenty() {
        CreditLink x = new CreditLink();
        for (int i = 1; i <= 7; i++) {
            Check.same("feed", x.feed(16, i, i, i, i), 16 * i);
        }
        Check.state("feed(9)", x, () -> x.feed(9, 0, 0, 0, 0));
        Check.same("feed", x.feed(8, 1, 2, 3, 4), 120);
        Check.same("feed", x.feed(0, 1, 2, 3, 4), 120);
        Check.state("feed(1)", x, () -> x.feed(1, 0, 0, 0, 0));
        Check.argument("feed(17) when it is full", x, () -> x.feed(17, 0, 0, 0, 0));
        x.erase();
        Check.same("feed", x.feed(1, 0, 0, 0, 0), 1);
    }

    private static void refusesWrongNumbers() {
        CreditLink x = new CreditLink();
        Check.argument("feed(-1)", x, () -> x.feed(-1, 0, 0, 0, 0));
        Check.argument("feed(17)", x, () -> x.feed(17, 0, 0, 0, 0));
        Check.argument("feed(lowest)", x, () -> x.feed(Integer.MIN_VALUE, 0, 0, 0, 0));
        Check.argument("feed(highest)", x, () -> x.feed(Integer.MAX_VALUE, 0, 0, 0, 0));
    }
}
