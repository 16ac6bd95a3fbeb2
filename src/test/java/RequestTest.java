/** The SIGNAL 20, a request, and its answer 21: each result and its edges. */
public final class RequestTest {
    public static void main(String[] args) {
        withoutSuchAServiceItIsRefused();
        sizesBelow23AreRefused();
        sizesFrom23OnAreTaken();
        aFarBelow64OrAbove127IsRefused();
        aFarFrom64To127IsTaken();
        aFarThatIsUsedIsRefused();
        aFarThatWasUsedIsTaken();
        withNoneClosedItIsRefused();
        theFirstClosedOneIsOpen();
        itHasWhatTheServiceHas();
        creditsAreAsTold();
        aChannelOpenAgainHasNoOldTexts();
        aRefusedRequestIsAnsweredAtOnce();
        Check.end();
    }

    private static CreditLink withService() {
        CreditLink x = new CreditLink();
        x.service(0, 1, 60, 61, 62);
        return x;
    }

    /** What host 0 answers, told by channel 64 of host 1, which is ASKED by the request's id. */
    private static int[] answerTo(CreditLink x, int... numbers) {
        x.connect(1, 9, 23, 23, 0);
        Link.loseAll(x, 0);
        Link.signal(x, 0, Link.REQUEST, 1, numbers);
        Check.same("an answer's packet", x.take(1), 18);
        int[] told = new int[8];
        for (int what = 0; what < 8; what++) {
            told[what] = x.channel(1, 64, what);
        }
        return told;
    }

    private static String states(CreditLink x) {
        StringBuilder all = new StringBuilder();
        for (int channel = 64; channel < 68; channel++) {
            all.append(x.channel(0, channel, Link.STATE)).append(' ');
        }
        return all.toString();
    }

    private static void isRefused(CreditLink x, int... numbers) {
        String before = states(x);
        Check.same("the one that asked", answerTo(x, numbers)[0], CreditLink.CLOSED);
        Check.same("the channels of the asked host", states(x), before);
        Check.same("REJECTED", x.count(0, Link.REJECTED), 0);
    }

    private static void isTaken(CreditLink x, int... numbers) {
        Check.same("the one that asked", answerTo(x, numbers)[0], CreditLink.OPEN);
        Link.channelIs(x, 0, 64, CreditLink.OPEN, numbers[1], numbers[4], 62, 0, 0, numbers[2], numbers[3]);
    }

    private static void withoutSuchAServiceItIsRefused() {
        Check.sentence("2: there is no such SERVICE");
        isRefused(new CreditLink(), 1, 64, 23, 23, 0);
        int[] none = {0, 2, 9, 10, 256, 257, 65535};
        for (int service : none) {
            isRefused(withService(), service, 64, 23, 23, 0);
        }
        CreditLink x = new CreditLink();
        x.service(1, 1, 60, 61, 62);
        isRefused(x, 1, 64, 23, 23, 0);
    }

    private static void sizesBelow23AreRefused() {
        Check.sentence("11: MTU or MPS is below 23");
        isRefused(withService(), 1, 64, 22, 23, 0);
        isRefused(withService(), 1, 64, 23, 22, 0);
        isRefused(withService(), 1, 64, 0, 23, 0);
        isRefused(withService(), 1, 64, 23, 0, 0);
    }

    private static void sizesFrom23OnAreTaken() {
        isTaken(withService(), 1, 64, 23, 23, 0);
        isTaken(withService(), 1, 64, 101, 256, 0);
        isTaken(withService(), 1, 64, 65535, 65535, 0);
    }

    private static void aFarBelow64OrAbove127IsRefused() {
        Check.sentence("9: FAR is below 64 or above 127");
        int[] wrong = {0, 5, 63, 128, 64 + 256, 65535};
        for (int far : wrong) {
            isRefused(withService(), 1, far, 23, 23, 0);
        }
    }

    private static void aFarFrom64To127IsTaken() {
        isTaken(withService(), 1, 64, 23, 23, 0);
        isTaken(withService(), 1, 68, 23, 23, 0);
        isTaken(withService(), 1, 127, 23, 23, 0);
    }

    private static CreditLink openTo70() {
        CreditLink x = withService();
        Link.signal(x, 0, Link.REQUEST, 7, 1, 70, 23, 23, 0);
        Link.loseAll(x, 1);
        return x;
    }

    private static void aFarThatIsUsedIsRefused() {
        Check.sentence("10: a CHANNEL that is not CLOSED has that FAR");
        isRefused(openTo70(), 1, 70, 23, 23, 0);
        CreditLink leaving = openTo70();
        leaving.leave(0, 64);
        Link.loseAll(leaving, 1);
        isRefused(leaving, 1, 70, 23, 23, 0);
        CreditLink last = new CreditLink();
        for (int i = 0; i < 4; i++) {
            last.service(0, 1, 60, 61, 62);
            Link.signal(last, 0, Link.REQUEST, 7, 1, 70 + i, 23, 23, 0);
        }
        Link.signal(last, 0, Link.LEAVE, 8, 64, 70);
        Link.settle(last);
        Link.channelIs(last, 0, 67, CreditLink.OPEN, 73);
        isRefused(last, 1, 73, 23, 23, 0);
    }

    private static void aFarThatWasUsedIsTaken() {
        CreditLink closed = openTo70();
        Link.signal(closed, 0, Link.LEAVE, 8, 64, 70);
        Link.loseAll(closed, 1);
        isTaken(closed, 1, 70, 23, 23, 0);
        CreditLink other = openTo70();
        Check.same("another FAR", answerTo(other, 1, 71, 23, 23, 0)[0], CreditLink.OPEN);
        Link.channelIs(other, 0, 65, CreditLink.OPEN, 71);
    }

    private static void withNoneClosedItIsRefused() {
        Check.sentence("4: none is CLOSED");
        CreditLink x = withService();
        for (int i = 0; i < 4; i++) {
            x.connect(0, 1, 23, 23, 0);
        }
        Link.loseAll(x, 1);
        isRefused(x, 1, 70, 23, 23, 0);
        CreditLink y = withService();
        for (int i = 0; i < 3; i++) {
            y.connect(0, 1, 23, 23, 0);
        }
        Link.loseAll(y, 1);
        Check.same("one is CLOSED", answerTo(y, 1, 70, 23, 23, 0)[0], CreditLink.OPEN);
        Link.channelIs(y, 0, 67, CreditLink.OPEN, 70);
    }

    private static void theFirstClosedOneIsOpen() {
        Check.sentence("Else 0, and the first CLOSED one is OPEN");
        CreditLink x = withService();
        x.connect(0, 1, 23, 23, 0);
        Link.loseAll(x, 1);
        Check.same("its number", answerTo(x, 1, 127, 24, 25, 26)[Link.FAR], 65);
        Link.channelIs(x, 0, 64, CreditLink.ASKED);
        Link.channelIs(x, 0, 65, CreditLink.OPEN);
        Link.channelIs(x, 0, 66, CreditLink.CLOSED);
    }

    private static void itHasWhatTheServiceHas() {
        Check.sentence("with what the SERVICE has");
        int[] told = answerTo(withService(), 1, 127, 24, 25, 26);
        int[] due = {CreditLink.OPEN, 64, 62, 0, 0, 0, 60, 61};
        for (int what = 0; what < 8; what++) {
            Check.same("answer " + what, told[what], due[what]);
        }
        CreditLink x = new CreditLink();
        x.service(0, 1, 24, 23, 0);
        Link.signal(x, 0, Link.REQUEST, 7, 1, 70, 50, 50, 5);
        Link.channelIs(x, 0, 64, CreditLink.OPEN, 70, 5, 0, 0, 0, 50, 50);
    }

    private static void creditsAreAsTold() {
        Check.sentence("and CREDITS as told");
        isTaken(withService(), 1, 64, 23, 23, 0);
        isTaken(withService(), 1, 64, 23, 23, 1);
        isTaken(withService(), 1, 64, 23, 23, 1001);
        isTaken(withService(), 1, 64, 23, 23, 65535);
    }

    private static void aChannelOpenAgainHasNoOldTexts() {
        Check.sentence("RECEIVED ones stay until the CHANNEL is ASKED or OPEN again");
        CreditLink x = openTo70();
        Link.unit(x, 0, 64, 0, 0);
        Link.signal(x, 0, Link.LEAVE, 8, 64, 70);
        Link.channelIs(x, 0, 64, CreditLink.CLOSED, 0, 0, 0, 0, 1);
        Link.signal(x, 0, Link.REQUEST, 7, 1, 70, 23, 23, 5);
        Link.channelIs(x, 0, 64, CreditLink.OPEN, 70, 5, 62, 0, 0);
        Check.same("receive", x.receive(0, 64), CreditLink.NONE);
    }

    private static void aRefusedRequestIsAnsweredAtOnce() {
        Check.sentence("answered by 21 (10)");
        CreditLink x = new CreditLink();
        x.connect(1, 1, 23, 23, 0);
        Check.same("a request", x.take(0), 18);
        Link.countsAre(x, 0, 3, 0, 0, 1, 0, 0, 0);
        Check.same("its answer", x.take(1), 18);
        Link.channelIs(x, 1, 64, 0, 0, 0, 0, 0, 0, 0, 0);
    }
}
