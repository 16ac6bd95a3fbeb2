/** Promise 4: bytes more in the store, four in each number, the highest first. */
public final class Promise04FeedTest {
    public static void main(String[] args) {
        takesTheHighestFirst();
        takesAsManyAsTold();
        putsThemBehind();
        holds120();
        refusesMoreThan120();
        refusesFewerThan0OrMoreThan16();
        theFirstExceptionWins();
        Check.end();
    }

    private static void takesTheHighestFirst() {
        Check.sentence("four in each number, the highest first");
        CreditLink x = new CreditLink();
        Check.same("feed", x.feed(16, 0x01020304, 0x05060708, 0x090a0b0c, 0x0d0e0f10), 16);
        for (int k = 0; k < 16; k++) {
            Check.same("octet(" + k + ")", x.octet(k), k + 1);
        }
        Check.same("feed", x.feed(4, 0xfffe8000, 0, 0, 0), 20);
        Check.same("octet(16)", x.octet(16), 255);
        Check.same("octet(17)", x.octet(17), 254);
        Check.same("octet(18)", x.octet(18), 128);
        Check.same("octet(19)", x.octet(19), 0);
    }

    private static void takesAsManyAsTold() {
        Check.sentence("many of them: how many it has");
        for (int many = 0; many <= 16; many++) {
            CreditLink x = new CreditLink();
            Check.same("feed", x.feed(many, 0x01020304, 0x05060708, 0x090a0b0c, 0x0d0e0f10), many);
            Check.same("the byte behind", x.octet(many), CreditLink.NONE);
            Check.same("the last one", x.octet(many - 1), many == 0 ? CreditLink.NONE : many);
        }
    }

    private static void putsThemBehind() {
        Check.sentence("Up to sixteen bytes more in THE STORE");
        CreditLink x = new CreditLink();
        Check.same("feed", x.feed(1, 0x07000000, 0, 0, 0), 1);
        Check.same("feed", x.feed(0, 0x08000000, 0, 0, 0), 1);
        Check.same("feed", x.feed(1, 0x09000000, 0, 0, 0), 2);
        Check.same("octet(0)", x.octet(0), 7);
        Check.same("octet(1)", x.octet(1), 9);
    }

    private static CreditLink with(int bytes) {
        CreditLink x = new CreditLink();
        Link.storeOf(x, bytes);
        return x;
    }

    private static void holds120() {
        Check.sentence("IllegalState: there would be more than 120");
        Check.same("feed", with(104).feed(16, 0, 0, 0, 0), 120);
        Check.same("feed", with(119).feed(1, 0, 0, 0, 0), 120);
        Check.same("feed", with(120).feed(0, 0, 0, 0, 0), 120);
        CreditLink x = with(120);
        x.erase();
        Check.same("feed where it is empty again", x.feed(16, 0, 0, 0, 0), 16);
    }

    private static void refusesMoreThan120() {
        Check.state("feed(16)", () -> with(105), x -> x.feed(16, 0, 0, 0, 0));
        Check.state("feed(9)", () -> with(112), x -> x.feed(9, 0, 0, 0, 0));
        Check.state("feed(1)", () -> with(120), x -> x.feed(1, 0, 0, 0, 0));
        Check.state("feed(16)", () -> with(120), x -> x.feed(16, 0, 0, 0, 0));
    }

    private static void refusesFewerThan0OrMoreThan16() {
        Check.sentence("IllegalArgument: many is not 0 .. 16");
        Check.argument("feed(-1)", () -> with(3), x -> x.feed(-1, 0, 0, 0, 0));
        Check.argument("feed(17)", () -> with(3), x -> x.feed(17, 0, 0, 0, 0));
        Check.argument("feed(lowest)", () -> with(3), x -> x.feed(Integer.MIN_VALUE, 0, 0, 0, 0));
        Check.argument("feed(highest)", () -> with(3), x -> x.feed(Integer.MAX_VALUE, 0, 0, 0, 0));
    }

    private static void theFirstExceptionWins() {
        Check.sentence("where a call lists more than one exception, the first one wins");
        Check.argument("feed(17) when it is full", () -> with(120), x -> x.feed(17, 0, 0, 0, 0));
    }
}
