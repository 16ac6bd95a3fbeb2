import java.util.Arrays;

/** The term SIGNAL, each sentence at its edges: what is passed over, what is REJECTED, the ids. */
public final class SignalTest {
    public static void main(String[] args) {
        hasTheNumber5();
        fewerThanFourBytesDoNothing();
        idZeroDoesNothing();
        anotherLengthIsRejected();
        otherCodesAreRejected();
        codesWithOtherSizesAreRejected();
        aRejectIsTwoBytesAndWhatIsToldWithIt();
        answersHaveItsId();
        idsBeginWith1();
        idsGoFrom255To1();
        answersUseNoIdOfTheHost();
        eachHostHasItsOwnIds();
        theFirstByAnIdCounts();
        Check.end();
    }

    private static void hasTheNumber5() {
        Check.sentence("A UNIT of number 5 is a SIGNAL");
        for (int number = 4; number <= 6; number++) {
            CreditLink x = new CreditLink();
            Link.unit(x, 0, number, 99, 1, 0, 0);
            boolean isSignal = number == 5;
            Link.countsAre(x, 0, isSignal ? 3 : 4, 0, 0, 1, isSignal ? 0 : 1, isSignal ? 1 : 0, 0);
        }
        CreditLink y = new CreditLink();
        Link.unit(y, 0, 5 * 256, 99, 1, 0, 0);
        Link.countsAre(y, 0, 4, 0, 0, 1, 1, 0, 0);
    }

    private static void fewerThanFourBytesDoNothing() {
        Check.sentence("With fewer than four bytes, or id 0, nothing happens");
        int[] signal = {99, 1, 0, 0};
        for (int bytes = 0; bytes <= 4; bytes++) {
            CreditLink x = new CreditLink();
            Link.unit(x, 0, 5, Arrays.copyOf(signal, bytes));
            int rejected = bytes < 4 ? 0 : 1;
            Link.countsAre(x, 0, 4 - rejected, 0, 0, 1, 0, rejected, 0);
        }
    }

    private static void idZeroDoesNothing() {
        int[] rejected = {0, 1, 1};
        int[] ids = {0, 1, 255};
        for (int i = 0; i < ids.length; i++) {
            CreditLink x = new CreditLink();
            Link.unit(x, 0, 5, 99, ids[i], 0, 0);
            Link.countsAre(x, 0, 4 - rejected[i], 0, 0, 1, 0, rejected[i], 0);
        }
        CreditLink y = new CreditLink();
        y.service(0, 1, 23, 23, 0);
        Link.signal(y, 0, Link.REQUEST, 0, 1, 70, 23, 23, 0);
        Link.signal(y, 0, Link.LEAVE, 0, 64, 64);
        Link.unit(y, 0, 5, 7, 0, 9, 0);
        Link.channelIs(y, 0, 64, CreditLink.CLOSED);
        Link.countsAre(y, 0, 4, 0, 0, 3, 0, 0, 0);
    }

    private static void anotherLengthIsRejected() {
        Check.sentence("It is REJECTED (for 0) if the length is another one");
        int[][] wrong = {
            {7, 1, 5, 0, 0, 0, 0, 0}, {7, 1, 3, 0, 0, 0, 0, 0}, {7, 1, 4, 1, 0, 0, 0, 0},
            {7, 1, 4, 0, 0, 0, 0}, {7, 1, 4, 0, 0, 0, 0, 0, 0}, {7, 1, 0, 4, 0, 0, 0, 0}
        };
        for (int[] bytes : wrong) {
            CreditLink x = new CreditLink();
            Link.unit(x, 0, 5, bytes);
            Link.countsAre(x, 0, 3, 0, 0, 1, 0, 1, 0);
        }
        CreditLink y = new CreditLink();
        Link.unit(y, 0, 5, 7, 1, 4, 0, 0, 0, 0, 0);
        Link.countsAre(y, 0, 4, 0, 0, 1, 0, 0, 0);
    }

    private static int rejectedOf(int code, int bytes) {
        CreditLink x = new CreditLink();
        int[] signal = new int[4 + bytes];
        signal[0] = code;
        signal[1] = 255;
        signal[2] = bytes;
        Link.unit(x, 0, 5, signal);
        return x.count(0, Link.REJECTED);
    }

    private static void otherCodesAreRejected() {
        Check.sentence("or the code none of these with so many bytes (in brackets)");
        int[] codes = {0, 2, 3, 4, 5, 8, 19, 23, 127, 128, 255};
        for (int code : codes) {
            for (int bytes = 0; bytes <= 10; bytes += 2) {
                Check.same("REJECTED of " + code + " (" + bytes + ")", rejectedOf(code, bytes), 1);
            }
        }
    }

    private static void codesWithOtherSizesAreRejected() {
        int[][] known = {{20, 10, 10}, {21, 10, 10}, {22, 4, 4}, {7, 4, 4}, {1, 2, 6}};
        for (int[] row : known) {
            for (int bytes = 0; bytes <= 14; bytes++) {
                int due = bytes == row[1] || bytes == row[2] ? 0 : 1;
                Check.same("REJECTED of " + row[0] + " (" + bytes + ")", rejectedOf(row[0], bytes), due);
            }
        }
        for (int bytes = 0; bytes <= 14; bytes++) {
            Check.same("REJECTED of 6 (" + bytes + ")", answerTo6(bytes), bytes == 4 ? 12 : 10);
        }
    }

    /** How many bytes the packet has by which a signal 6 is answered, where it fits a channel. */
    private static int answerTo6(int bytes) {
        CreditLink x = Link.lonely(23, 23, 0, 90, 23, 23, 0);
        int[] whole = {6, 1, bytes, 0, 64, 0, 90, 0, 0, 0, 0, 0, 0, 0, 0, 0, 0, 0};
        Link.unit(x, 0, 5, Arrays.copyOf(whole, 4 + bytes));
        return x.take(1);
    }

    private static void aRejectIsTwoBytesAndWhatIsToldWithIt() {
        Check.sentence("REJECTED is a SIGNAL 1: the reason (two bytes), and what is told with it");
        CreditLink x = new CreditLink();
        Link.unit(x, 0, 5, 99, 1, 0, 0);
        Link.signal(x, 0, Link.LEAVE, 1, 64, 64);
        Check.same("a REJECT for 0", x.take(1), 10);
        Check.same("a REJECT for 2", x.take(1), 14);
        Link.countsAre(x, 0, 4, 0, 0, 2, 0, 2, 0);
        Link.countsAre(x, 1, 4, 0, 0, 2, 0, 0, 0);
    }

    /** Two channels of host 1 are ASKED, by the ids 1 and 2, and host 0 never got a request. */
    private static CreditLink askedByTwoIds() {
        CreditLink x = new CreditLink();
        x.connect(1, 1, 23, 23, 0);
        x.connect(1, 1, 23, 23, 0);
        Link.loseAll(x, 0);
        return x;
    }

    private static void answersHaveItsId() {
        Check.sentence("Answers have its id");
        CreditLink x = askedByTwoIds();
        Link.unit(x, 0, 5, 99, 2, 0, 0);
        x.take(1);
        Link.channelIs(x, 1, 64, CreditLink.ASKED);
        Link.channelIs(x, 1, 65, CreditLink.CLOSED);
        Link.signal(x, 0, Link.LEAVE, 1, 64, 64);
        x.take(1);
        Link.channelIs(x, 1, 64, CreditLink.CLOSED);
        CreditLink y = askedByTwoIds();
        Link.signal(y, 0, Link.REQUEST, 2, 1, 64, 23, 23, 0);
        y.take(1);
        Link.channelIs(y, 1, 64, CreditLink.ASKED);
        Link.channelIs(y, 1, 65, CreditLink.CLOSED);
    }

    /** Closes the channel of host 0 that is ASKED or LEAVING by that id, and no other. */
    private static void rejectClosesFirst(CreditLink x, int id) {
        Link.signal(x, 0, Link.REJECT, id % 255 + 1, 0);
        Check.same("a channel after an id more", x.channel(0, 64, Link.STATE) == 0 ? 1 : 0, 0);
        Link.signal(x, 0, Link.REJECT, id, 0);
        Link.channelIs(x, 0, 64, CreditLink.CLOSED);
    }

    private static void idsBeginWith1() {
        Check.sentence("Those that a host begins have the ids 1, 2, ..");
        CreditLink x = new CreditLink();
        for (int id = 1; id <= 9; id++) {
            x.connect(0, 1, 23, 23, 0);
            rejectClosesFirst(x, id);
        }
    }

    /** Channel 64 is OPEN, asked by id 1; grants have used the ids up to one. */
    private static CreditLink usedUpTo(int id) {
        CreditLink x = new CreditLink();
        x.connect(0, 1, 23, 23, 0);
        Link.signal(x, 0, Link.ANSWER, 1, 70, 23, 23, 0, 0);
        for (int i = 2; i <= id; i++) {
            x.grant(0, 64, 1);
        }
        return x;
    }

    private static void idsGoFrom255To1() {
        Check.sentence(".. 255, 1, ..");
        int[][] due = {{253, 254}, {254, 255}, {255, 1}};
        for (int[] row : due) {
            CreditLink x = usedUpTo(row[0]);
            x.leave(0, 64);
            rejectClosesFirst(x, row[1]);
        }
        CreditLink y = usedUpTo(255);
        y.grant(0, 64, 1);
        y.leave(0, 64);
        rejectClosesFirst(y, 2);
    }

    private static void answersUseNoIdOfTheHost() {
        Check.sentence("Those that a host begins");
        CreditLink x = new CreditLink();
        x.service(0, 1, 23, 23, 0);
        Link.signal(x, 0, Link.REQUEST, 50, 1, 70, 23, 23, 0);
        Link.unit(x, 0, 5, 99, 60, 0, 0);
        Link.signal(x, 0, Link.LEAVE, 70, 64, 70);
        Link.signal(x, 0, Link.LEAVE, 80, 64, 70);
        x.connect(0, 1, 23, 23, 0);
        rejectClosesFirst(x, 1);
    }

    private static void eachHostHasItsOwnIds() {
        Check.sentence("Those that a host begins have the ids 1, 2, ..");
        CreditLink x = new CreditLink();
        x.connect(1, 1, 23, 23, 0);
        x.connect(1, 1, 23, 23, 0);
        x.connect(0, 1, 23, 23, 0);
        Link.loseAll(x, 0);
        rejectClosesFirst(x, 1);
    }

    /** 255 signals later an id comes again, while the channel that had it is still ASKED. */
    private static CreditLink twoByOneId() {
        CreditLink x = new CreditLink();
        x.connect(0, 1, 23, 23, 0);
        x.connect(0, 1, 23, 23, 0);
        Link.signal(x, 0, Link.ANSWER, 2, 70, 23, 23, 0, 0);
        for (int i = 3; i <= 255; i++) {
            x.grant(0, 65, 1);
        }
        x.connect(0, 1, 23, 23, 0);
        return x;
    }

    private static void theFirstByAnIdCounts() {
        Check.sentence("(by that id, also below, the first one)");
        CreditLink x = twoByOneId();
        Link.signal(x, 0, Link.ANSWER, 1, 71, 23, 23, 0, 0);
        Link.channelIs(x, 0, 64, CreditLink.OPEN, 71);
        Link.channelIs(x, 0, 66, CreditLink.ASKED);
        Link.signal(x, 0, Link.ANSWER, 1, 72, 23, 23, 0, 0);
        Link.channelIs(x, 0, 66, CreditLink.OPEN, 72);
        CreditLink y = twoByOneId();
        Link.signal(y, 0, Link.REJECT, 1, 0);
        Link.channelIs(y, 0, 64, CreditLink.CLOSED);
        Link.channelIs(y, 0, 66, CreditLink.ASKED);
        Link.signal(y, 0, Link.REJECT, 1, 0);
        Link.channelIs(y, 0, 66, CreditLink.CLOSED);
    }
}
