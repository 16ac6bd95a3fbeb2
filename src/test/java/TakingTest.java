/** The term TAKING, each sentence at its edges: what is gathered, and what is dropped. */
public final class TakingTest {
    public static void main(String[] args) {
        takesTheFirst();
        freesABufferOfTheOtherHost();
        freesNoBufferForAnInjectedOne();
        dropsWhatIsGatheredForAMarkedOne();
        dropsNothingForAMarkedOneAlone();
        dropsAnUnmarkedOneAlone();
        gathersUpTo128();
        dropsBothAbove128();
        eachTimeIsOneDropped();
        isAUnitWithAsManyAsTheLengthSays();
        waitsWithFewerThanTheLengthSays();
        dropsMoreThanTheLengthSays();
        keepsApartWhatTheHostsGather();
        Check.end();
    }

    private static void inject(CreditLink x, int bytes, int more) {
        Link.storeOf(x, bytes);
        x.inject(0, 70, more);
    }

    /** The last packet of an injected unit, which has so many bytes, alone on the way to host 0. */
    private static void injectLast(CreditLink x, int bytes) {
        Link.storeOf(x, 23 + bytes);
        x.inject(0, 70, 0);
        x.lose(0);
    }

    private static void gatheredIs(CreditLink x, int units, int dropped, int gathered) {
        Link.countsAre(x, 0, 4, 0, 0, units, dropped, 0, gathered);
    }

    private static void takesTheFirst() {
        Check.sentence("TAKING a PACKET, the first on the WAY to a host");
        CreditLink x = new CreditLink();
        inject(x, 1, 0);
        inject(x, 2, 0);
        Check.same("take", x.take(0), 5);
        Check.same("packets on the way", x.count(0, Link.ON_WAY), 1);
        Check.same("take", x.take(0), 6);
        Check.same("take", x.take(0), CreditLink.NONE);
        gatheredIs(x, 2, 2, 0);
    }

    private static void freesABufferOfTheOtherHost() {
        Check.sentence("a BUFFER of the other one is free (if it sent it)");
        CreditLink x = Link.opened();
        x.grant(1, 64, 1);
        x.grant(0, 64, 1);
        x.take(0);
        Check.same("free buffers of the other one", x.count(1, Link.FREE), 4);
        Check.same("free buffers of its own", x.count(0, Link.FREE), 3);
    }

    private static void freesNoBufferForAnInjectedOne() {
        CreditLink x = Link.opened();
        Link.storeOf(x, 1);
        x.inject(0, 70, 0);
        x.grant(1, 64, 1);
        x.grant(1, 64, 1);
        x.take(0);
        Check.same("free buffers of the other one", x.count(1, Link.FREE), 2);
        x.take(0);
        Check.same("free buffers of the other one", x.count(1, Link.FREE), 3);
    }

    private static void dropsWhatIsGatheredForAMarkedOne() {
        Check.sentence("What is GATHERED is dropped if the PACKET is marked and there was something");
        CreditLink x = new CreditLink();
        inject(x, 3, 1);
        x.take(0);
        gatheredIs(x, 0, 0, 7);
        inject(x, 5, 9);
        x.take(0);
        gatheredIs(x, 0, 1, 9);
        inject(x, 0, 0);
        x.take(0);
        gatheredIs(x, 1, 3, 0);
    }

    private static void dropsNothingForAMarkedOneAlone() {
        CreditLink x = new CreditLink();
        inject(x, 3, 1);
        x.take(0);
        gatheredIs(x, 0, 0, 7);
    }

    private static void dropsAnUnmarkedOneAlone() {
        Check.sentence("a PACKET that is not marked, with nothing GATHERED, is dropped");
        CreditLink x = new CreditLink();
        injectLast(x, 7);
        Check.same("take", x.take(0), 7);
        gatheredIs(x, 0, 1, 0);
    }

    private static CreditLink gathered124() {
        CreditLink x = new CreditLink();
        inject(x, 120, 100);
        Link.takeAll(x, 0);
        gatheredIs(x, 0, 0, 124);
        return x;
    }

    private static void gathersUpTo128() {
        Check.sentence("both are, if they would have more than 128 bytes together");
        CreditLink x = gathered124();
        injectLast(x, 4);
        Check.same("take", x.take(0), 4);
        gatheredIs(x, 0, 0, 128);
        injectLast(x, 1);
        Check.same("take", x.take(0), 1);
        gatheredIs(x, 0, 1, 0);
    }

    private static void dropsBothAbove128() {
        CreditLink x = gathered124();
        injectLast(x, 5);
        Check.same("take", x.take(0), 5);
        gatheredIs(x, 0, 1, 0);
        injectLast(x, 5);
        x.take(0);
        gatheredIs(x, 0, 2, 0);
    }

    private static void eachTimeIsOneDropped() {
        Check.sentence("(each time one DROPPED)");
        CreditLink x = new CreditLink();
        injectLast(x, 27);
        x.take(0);
        gatheredIs(x, 0, 1, 0);
        inject(x, 3, 1);
        inject(x, 120, 100);
        Link.takeAll(x, 0);
        gatheredIs(x, 0, 2, 124);
        injectLast(x, 27);
        x.take(0);
        gatheredIs(x, 0, 3, 0);
    }

    private static void isAUnitWithAsManyAsTheLengthSays() {
        Check.sentence("With four bytes or more, and as many as the length says, it is a UNIT");
        CreditLink x = new CreditLink();
        inject(x, 0, 0);
        x.take(0);
        gatheredIs(x, 1, 1, 0);
        inject(x, 30, 0);
        x.take(0);
        x.take(0);
        gatheredIs(x, 2, 2, 0);
        inject(x, 10, 5);
        x.take(0);
        gatheredIs(x, 2, 2, 14);
        injectLast(x, 5);
        x.take(0);
        gatheredIs(x, 3, 3, 0);
    }

    private static void waitsWithFewerThanTheLengthSays() {
        CreditLink x = new CreditLink();
        inject(x, 0, 1);
        x.take(0);
        gatheredIs(x, 0, 0, 4);
        CreditLink y = new CreditLink();
        inject(y, 10, 5);
        y.take(0);
        injectLast(y, 4);
        y.take(0);
        gatheredIs(y, 0, 0, 18);
        injectLast(y, 1);
        y.take(0);
        gatheredIs(y, 1, 1, 0);
    }

    private static void dropsMoreThanTheLengthSays() {
        Check.sentence("with more than that it is dropped");
        CreditLink x = new CreditLink();
        inject(x, 10, 5);
        x.take(0);
        injectLast(x, 6);
        Check.same("take", x.take(0), 6);
        gatheredIs(x, 0, 1, 0);
        inject(x, 1, 0);
        x.take(0);
        gatheredIs(x, 1, 2, 0);
    }

    private static void keepsApartWhatTheHostsGather() {
        Check.sentence("What is GATHERED");
        CreditLink x = new CreditLink();
        inject(x, 3, 1);
        x.take(0);
        Link.storeOf(x, 1);
        x.inject(1, 70, 0);
        x.take(1);
        Link.countsAre(x, 1, 4, 0, 0, 1, 1, 0, 0);
        gatheredIs(x, 0, 0, 7);
    }
}
