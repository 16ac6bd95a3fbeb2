/** Promise 9: a host takes a packet; with it the rules of TAKING. */
public final class Promise09TakeTest {
    public static void main(String[] args) {
        tellsThePacketsBytes();
        dropsWhatWasGatheredBeforeAMarkedOne();
        dropsAnUnmarkedOneAlone();
        dropsBothAbove128();
        gathersUpTo128();
        dropsMoreThanTheLengthSays();
        refusesWrongNumbers();
        Check.end();
    }

    private static void tellsThePacketsBytes() {
        CreditLink x = new CreditLink();
        Check.same("take", x.take(0), CreditLink.NONE);
        Link.storeOf(x, 60);
        x.inject(0, 9, 0);
        Check.same("take", x.take(0), 27);
        Link.countsAre(x, 0, 4, 2, 0, 0, 0, 0, 27);
        Check.same("take", x.take(0), 27);
        Link.countsAre(x, 0, 4, 1, 0, 0, 0, 0, 54);
        Check.same("take", x.take(0), 10);
        Link.countsAre(x, 0, 4, 0, 0, 1, 1, 0, 0);
        Check.same("take", x.take(0), CreditLink.NONE);
        x.erase();
        x.inject(1, 9, 0);
        Check.same("take", x.take(1), 4);
        Link.countsAre(x, 1, 4, 0, 0, 1, 1, 0, 0);
    }

    private static void dropsWhatWasGatheredBeforeAMarkedOne() {
        CreditLink x = new CreditLink();
        Link.storeOf(x, 3);
        x.inject(0, 70, 1);
        x.take(0);
        Link.countsAre(x, 0, 4, 0, 0, 0, 0, 0, 7);
        Link.unit(x, 0, 70, 1);
        Link.countsAre(x, 0, 4, 0, 0, 1, 2, 0, 0);
    }

    private static void dropsAnUnmarkedOneAlone() {
        CreditLink x = new CreditLink();
        Link.storeOf(x, 30);
        x.inject(0, 70, 0);
        x.lose(0);
        Check.same("take", x.take(0), 7);
        Link.countsAre(x, 0, 4, 0, 0, 0, 1, 0, 0);
    }

    /** Unmarked packets of units whose first one was lost come behind a unit that waits for more. */
    private static CreditLink gathered124() {
        CreditLink x = new CreditLink();
        Link.storeOf(x, 120);
        x.inject(0, 70, 100);
        Link.takeAll(x, 0);
        Link.countsAre(x, 0, 4, 0, 0, 0, 0, 0, 124);
        return x;
    }

    private static void dropsBothAbove128() {
        CreditLink x = gathered124();
        Link.storeOf(x, 28);
        x.inject(0, 70, 0);
        x.lose(0);
        Check.same("take", x.take(0), 5);
        Link.countsAre(x, 0, 4, 0, 0, 0, 1, 0, 0);
    }

    private static void gathersUpTo128() {
        CreditLink x = gathered124();
        Link.storeOf(x, 27);
        x.inject(0, 70, 0);
        x.lose(0);
        Check.same("take", x.take(0), 4);
        Link.countsAre(x, 0, 4, 0, 0, 0, 0, 0, 128);
    }

    private static void dropsMoreThanTheLengthSays() {
        CreditLink x = new CreditLink();
        Link.storeOf(x, 24);
        x.inject(0, 70, 0);
        x.take(0);
        x.lose(0);
        Link.countsAre(x, 0, 4, 0, 0, 0, 0, 0, 27);
        Link.storeOf(x, 25);
        x.inject(0, 70, 0);
        x.lose(0);
        Check.same("take", x.take(0), 2);
        Link.countsAre(x, 0, 4, 0, 0, 0, 1, 0, 0);
    }

    private static void refusesWrongNumbers() {
        CreditLink x = Link.opened();
        Check.argument("host -1", x, () -> x.take(-1));
        Check.argument("host 2", x, () -> x.take(2));
    }
}
