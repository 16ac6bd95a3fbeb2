/** The term SIGNAL: each code, what is REJECTED, and what is passed over. */
public final class SignalTest {
    public static void main(String[] args) {
        passesOverShortOnesAndIdZero();
        rejectsWhatIsNotUnderstood();
        requestResultsInTheirOrder();
        requestOpensTheFirstClosedOne();
        requestEdges();
        answerOpensOrCloses();
        answerEdges();
        creditGivesMore();
        creditEdges();
        leaveCloses();
        leaveOfNoneIsRejected();
        leftCloses();
        rejectCloses();
        theFirstByAnIdCounts();
        answersHaveTheSignalsId();
        Check.end();
    }

    private static void passesOverShortOnesAndIdZero() {
        CreditLink x = new CreditLink();
        Link.unit(x, 0, 5);
        Link.unit(x, 0, 5, 99);
        Link.unit(x, 0, 5, 99, 1, 0);
        Link.unit(x, 0, 5, 99, 0, 0, 0);
        Link.unit(x, 0, 5, 99, 0, 7, 0);
        Link.signal(x, 0, Link.LEAVE, 0, 64, 64);
        Link.countsAre(x, 0, 4, 0, 0, 6, 0, 0, 0);
    }

    private static void rejectsWhatIsNotUnderstood() {
        int[] codes = {0, 1, 2, 5, 6, 7, 8, 19, 20, 21, 22, 23, 255};
        for (int code : codes) {
            for (int bytes = 0; bytes <= 12; bytes++) {
                CreditLink x = new CreditLink();
                int[] signal = new int[4 + bytes];
                signal[0] = code;
                signal[1] = 255;
                signal[2] = bytes;
                Link.unit(x, 0, 5, signal);
                boolean isLeaveOfNone = code == Link.LEAVE && bytes == 4;
                int due = isKnown(code, bytes) && !isLeaveOfNone ? 0 : 1;
                Check.same("REJECTED of " + code + " (" + bytes + ")", x.count(0, Link.REJECTED), due);
                int size = due == 1 ? isLeaveOfNone ? 14 : 10 : code == 20 ? 18 : CreditLink.NONE;
                Check.same("answer to " + code + " (" + bytes + ")", x.take(1), size);
            }
        }
        anotherLength();
    }

    private static boolean isKnown(int code, int bytes) {
        return switch (code) {
            case 20, 21 -> bytes == 10;
            case 22, 6, 7 -> bytes == 4;
            case 1 -> bytes == 2 || bytes == 6;
            default -> false;
        };
    }

    private static void anotherLength() {
        CreditLink x = new CreditLink();
        Link.unit(x, 0, 5, 7, 1, 5, 0, 0, 0, 0, 0);
        Link.unit(x, 0, 5, 7, 1, 3, 0, 0, 0, 0, 0);
        Link.unit(x, 0, 5, 7, 1, 4, 1, 0, 0, 0, 0);
        Link.unit(x, 0, 5, 7, 1, 4, 0, 0, 0, 0);
        Link.countsAre(x, 0, 0, 0, 0, 4, 0, 4, 0);
        Link.unit(x, 0, 5, 7, 1, 4, 0, 0, 0, 0, 0);
        Check.same("REJECTED", x.count(0, Link.REJECTED), 4);
    }

    /** What host 0 answers to a request, told by a channel of host 1 that is ASKED by that id. */
    private static int[] answerTo(CreditLink x, int... numbers) {
        x.connect(1, 9, 23, 23, 0);
        x.lose(0);
        Link.signal(x, 0, Link.REQUEST, 1, numbers);
        Check.same("an answer's packet", x.take(1), 18);
        int[] told = new int[8];
        for (int what = 0; what < 8; what++) {
            told[what] = x.channel(1, 64, what);
        }
        return told;
    }

    private static void isRefused(CreditLink x, int... numbers) {
        int opened = 0;
        for (int channel = 64; channel < 68; channel++) {
            opened += x.channel(0, channel, Link.STATE) == CreditLink.OPEN ? 1 : 0;
        }
        Check.same("the one that asked", answerTo(x, numbers)[0], CreditLink.CLOSED);
        for (int channel = 64; channel < 68; channel++) {
            opened -= x.channel(0, channel, Link.STATE) == CreditLink.OPEN ? 1 : 0;
        }
        Check.same("opened by it", opened, 0);
    }

    private static CreditLink withService() {
        CreditLink x = new CreditLink();
        x.service(0, 1, 60, 61, 62);
        return x;
    }

    private static void requestResultsInTheirOrder() {
        isRefused(withService(), 0, 64, 23, 23, 0);
        isRefused(withService(), 2, 64, 23, 23, 0);
        isRefused(withService(), 10, 64, 23, 23, 0);
        isRefused(withService(), 257, 64, 23, 23, 0);
        isRefused(withService(), 65535, 64, 23, 23, 0);
        isRefused(withService(), 1, 64, 22, 23, 0);
        isRefused(withService(), 1, 64, 23, 22, 0);
        isRefused(withService(), 1, 63, 23, 23, 0);
        isRefused(withService(), 1, 128, 23, 23, 0);
        isRefused(withService(), 1, 64 + 256, 23, 23, 0);
        CreditLink x = withService();
        Link.signal(x, 0, Link.REQUEST, 7, 1, 70, 23, 23, 0);
        Link.takeAll(x, 1);
        isRefused(x, 1, 70, 23, 23, 0);
        CreditLink y = withService();
        Link.signal(y, 0, Link.REQUEST, 7, 1, 70, 23, 23, 0);
        Link.takeAll(y, 1);
        y.leave(0, 64);
        y.lose(1);
        isRefused(y, 1, 70, 23, 23, 0);
        CreditLink z = withService();
        for (int i = 0; i < 4; i++) {
            z.connect(0, 1, 23, 23, 0);
            z.lose(1);
        }
        isRefused(z, 1, 70, 23, 23, 0);
    }

    private static void requestOpensTheFirstClosedOne() {
        CreditLink x = withService();
        x.connect(0, 1, 23, 23, 0);
        x.lose(1);
        int[] told = answerTo(x, 1, 127, 24, 25, 26);
        int[] due = {CreditLink.OPEN, 65, 62, 0, 0, 0, 60, 61};
        for (int what = 0; what < 8; what++) {
            Check.same("answer " + what, told[what], due[what]);
        }
        Link.channelIs(x, 0, 65, CreditLink.OPEN, 127, 26, 62, 0, 0, 24, 25);
        Link.channelIs(x, 0, 66, CreditLink.CLOSED);
    }

    private static void requestEdges() {
        Check.same("far 64", answerTo(withService(), 1, 64, 23, 23, 0)[0], CreditLink.OPEN);
        Check.same("far 127", answerTo(withService(), 1, 127, 23, 23, 65535)[0], CreditLink.OPEN);
        Check.same("high sizes", answerTo(withService(), 1, 70, 65535, 65535, 0)[0], CreditLink.OPEN);
        CreditLink x = withService();
        Link.signal(x, 0, Link.REQUEST, 7, 1, 70, 23, 23, 5);
        Link.unit(x, 0, 64, 0, 0);
        Link.signal(x, 0, Link.LEAVE, 8, 64, 70);
        Link.channelIs(x, 0, 64, CreditLink.CLOSED, 0, 0, 0, 0, 1);
        Link.signal(x, 0, Link.REQUEST, 7, 1, 70, 23, 23, 5);
        Link.channelIs(x, 0, 64, CreditLink.OPEN, 70, 5, 62, 0, 0);
    }

    private static CreditLink asked() {
        CreditLink x = new CreditLink();
        x.connect(0, 1, 30, 31, 32);
        x.lose(1);
        return x;
    }

    private static void answerOpensOrCloses() {
        CreditLink x = asked();
        Link.signal(x, 0, Link.ANSWER, 2, 70, 40, 41, 42, 0);
        Link.channelIs(x, 0, 64, CreditLink.ASKED, 0, 0, 32, 0, 0, 0, 0);
        Link.signal(x, 0, Link.ANSWER, 1, 70, 40, 41, 42, 0);
        Link.channelIs(x, 0, 64, CreditLink.OPEN, 70, 42, 32, 0, 0, 40, 41);
        Link.signal(x, 0, Link.ANSWER, 1, 71, 50, 51, 52, 1);
        Link.channelIs(x, 0, 64, CreditLink.OPEN, 70, 42, 32, 0, 0, 40, 41);
        x.leave(0, 64);
        Link.signal(x, 0, Link.ANSWER, 2, 71, 50, 51, 52, 1);
        Link.channelIs(x, 0, 64, CreditLink.LEAVING);
        Check.same("nothing is REJECTED", x.count(0, Link.REJECTED), 0);
    }

    private static void afterAnswer(int due, int... numbers) {
        CreditLink x = asked();
        Link.signal(x, 0, Link.ANSWER, 1, numbers);
        Link.channelIs(x, 0, 64, due);
        Check.same("GIVEN", x.channel(0, 64, Link.GIVEN), due == CreditLink.OPEN ? 32 : 0);
    }

    private static void answerEdges() {
        afterAnswer(CreditLink.OPEN, 64, 23, 23, 0, 0);
        afterAnswer(CreditLink.OPEN, 127, 65535, 65535, 65535, 0);
        afterAnswer(CreditLink.CLOSED, 64, 23, 23, 0, 1);
        afterAnswer(CreditLink.CLOSED, 64, 23, 23, 0, 256);
        afterAnswer(CreditLink.CLOSED, 63, 23, 23, 0, 0);
        afterAnswer(CreditLink.CLOSED, 128, 23, 23, 0, 0);
        afterAnswer(CreditLink.CLOSED, 64, 22, 23, 0, 0);
        afterAnswer(CreditLink.CLOSED, 64, 23, 22, 0, 0);
    }

    private static void creditGivesMore() {
        CreditLink x = Link.lonely(23, 23, 0, 80, 23, 23, 1);
        Link.signal(x, 0, Link.CREDIT, 1, 80, 300);
        Link.channelIs(x, 0, 64, CreditLink.OPEN, 80, 301);
        Link.signal(x, 0, Link.CREDIT, 1, 64, 300);
        Link.signal(x, 0, Link.CREDIT, 1, 81, 0);
        Link.channelIs(x, 0, 64, CreditLink.OPEN, 80, 301);
        x.leave(0, 64);
        Link.signal(x, 0, Link.CREDIT, 1, 80, 300);
        Link.channelIs(x, 0, 64, CreditLink.LEAVING, 80, 301);
        Check.same("nothing is REJECTED", x.count(0, Link.REJECTED), 0);
    }

    private static void creditEdges() {
        CreditLink x = Link.lonely(23, 23, 0, 80, 23, 23, 5);
        Link.signal(x, 0, Link.CREDIT, 1, 80, 65530);
        Link.channelIs(x, 0, 64, CreditLink.OPEN, 80, 65535);
        Link.signal(x, 0, Link.CREDIT, 1, 80, 1);
        Link.channelIs(x, 0, 64, CreditLink.LEAVING, 80, 65535);
        CreditLink y = Link.lonely(23, 23, 0, 80, 23, 23, 5);
        Link.signal(y, 0, Link.CREDIT, 1, 80, 0);
        Link.channelIs(y, 0, 64, CreditLink.LEAVING, 80, 5);
        Check.same("a signal 6 goes", y.take(1), 12);
        CreditLink z = Link.lonely(23, 23, 0, 80, 23, 23, 5);
        Link.signal(z, 0, Link.CREDIT, 1, 80, 65531);
        Link.channelIs(z, 0, 64, CreditLink.LEAVING, 80, 5);
    }

    private static void leaveCloses() {
        CreditLink x = Link.lonely(40, 40, 5, 80, 40, 40, 0);
        Link.storeOf(x, 5);
        x.send(0, 64);
        Link.unit(x, 0, 64, 9, 0, 1);
        Link.signal(x, 0, Link.LEAVE, 77, 64, 80);
        Link.channelIs(x, 0, 64, 0, 0, 0, 0, 0, 0, 0, 0);
        Check.same("a signal 7 goes", x.take(1), 12);
        Check.same("nothing is REJECTED", x.count(1, Link.REJECTED), 0);
        Link.signal(x, 0, Link.REQUEST, 1, 1, 80, 40, 40, 9);
        Link.unit(x, 0, 64, 1, 0, 8);
        Check.same("a new text begins", x.receive(0, 64), 1);
        CreditLink y = Link.lonely(40, 40, 5, 80, 40, 40, 0);
        y.leave(0, 64);
        Link.signal(y, 0, Link.LEAVE, 77, 64, 80);
        Link.channelIs(y, 0, 64, CreditLink.CLOSED);
    }

    private static void leaveOfNoneIsRejected() {
        int[][] wrong = {{64, 81}, {65, 80}, {80, 64}, {63, 80}, {68, 80}, {0, 0}, {65535, 80}, {64, 0}, {65, 0}};
        for (int[] numbers : wrong) {
            CreditLink x = Link.lonely(40, 40, 5, 80, 40, 40, 0);
            Link.signal(x, 0, Link.LEAVE, 77, numbers);
            Link.channelIs(x, 0, 64, CreditLink.OPEN);
            Check.same("REJECTED", x.count(0, Link.REJECTED), 1);
            Check.same("a signal 1 of 6 bytes goes", x.take(1), 14);
        }
        CreditLink y = asked();
        Link.signal(y, 0, Link.LEAVE, 77, 64, 0);
        Link.channelIs(y, 0, 64, CreditLink.ASKED);
        Check.same("REJECTED", y.count(0, Link.REJECTED), 1);
    }

    private static void leftCloses() {
        CreditLink x = Link.lonely(40, 40, 5, 80, 40, 40, 0);
        Link.signal(x, 0, Link.LEFT, 1, 80, 64);
        Link.channelIs(x, 0, 64, CreditLink.OPEN);
        x.leave(0, 64);
        int[][] wrong = {{81, 64}, {80, 65}, {80, 63}, {80, 68}, {64, 80}, {0, 64}};
        for (int[] numbers : wrong) {
            Link.signal(x, 0, Link.LEFT, 1, numbers);
            Link.channelIs(x, 0, 64, CreditLink.LEAVING);
        }
        Link.signal(x, 0, Link.LEFT, 200, 80, 64);
        Link.channelIs(x, 0, 64, 0, 0, 0, 0, 0, 0, 0, 0);
        Check.same("nothing is REJECTED", x.count(0, Link.REJECTED), 0);
    }

    private static void rejectCloses() {
        CreditLink x = asked();
        Link.signal(x, 0, Link.REJECT, 2, 0);
        Link.channelIs(x, 0, 64, CreditLink.ASKED);
        Link.signal(x, 0, Link.REJECT, 1, 0);
        Link.channelIs(x, 0, 64, 0, 0, 0, 0, 0, 0, 0, 0);
        CreditLink y = asked();
        Link.signal(y, 0, Link.REJECT, 1, 2, 64, 64);
        Link.channelIs(y, 0, 64, CreditLink.CLOSED);
        CreditLink z = Link.lonely(40, 40, 5, 80, 40, 40, 0);
        Link.signal(z, 0, Link.REJECT, 1, 0);
        Link.channelIs(z, 0, 64, CreditLink.OPEN);
        z.leave(0, 64);
        Link.signal(z, 0, Link.REJECT, 2, 0);
        Link.channelIs(z, 0, 64, CreditLink.LEAVING);
        Link.signal(z, 0, Link.REJECT, 1, 0);
        Link.channelIs(z, 0, 64, CreditLink.CLOSED);
    }

    /** Answers out of nowhere open two channels with one FAR. */
    private static void theFirstByAnIdCounts() {
        CreditLink x = new CreditLink();
        for (int id = 1; id <= 2; id++) {
            x.connect(0, 1, 30, 31, 32);
            x.lose(1);
            Link.signal(x, 0, Link.ANSWER, id, 70, 23, 23, 5, 0);
        }
        Link.signal(x, 0, Link.CREDIT, 9, 70, 2);
        Link.channelIs(x, 0, 64, CreditLink.OPEN, 70, 7);
        Link.channelIs(x, 0, 65, CreditLink.OPEN, 70, 5);
        x.leave(0, 64);
        Link.signal(x, 0, Link.CREDIT, 9, 70, 2);
        Link.channelIs(x, 0, 64, CreditLink.LEAVING, 70, 7);
        Link.channelIs(x, 0, 65, CreditLink.OPEN, 70, 7);
        twoByOneId();
    }

    /** 255 signals later an id comes again, while the channel that had it is still ASKED. */
    private static void twoByOneId() {
        CreditLink x = new CreditLink();
        x.connect(0, 1, 23, 23, 0);
        x.connect(0, 1, 23, 23, 0);
        Link.signal(x, 0, Link.ANSWER, 2, 70, 23, 23, 0, 0);
        for (int i = 3; i <= 255; i++) {
            x.grant(0, 65, 1);
            x.lose(1);
        }
        x.connect(0, 1, 23, 23, 0);
        Link.signal(x, 0, Link.ANSWER, 1, 71, 23, 23, 0, 0);
        Link.channelIs(x, 0, 64, CreditLink.OPEN, 71);
        Link.channelIs(x, 0, 66, CreditLink.ASKED);
        Link.signal(x, 0, Link.REJECT, 1, 0);
        Link.channelIs(x, 0, 66, CreditLink.CLOSED);
    }

    private static void answersHaveTheSignalsId() {
        CreditLink x = new CreditLink();
        x.connect(1, 1, 23, 23, 0);
        x.connect(1, 1, 23, 23, 0);
        x.lose(0);
        x.lose(0);
        Link.unit(x, 0, 5, 99, 2, 0, 0);
        x.take(1);
        Link.channelIs(x, 1, 64, CreditLink.ASKED);
        Link.channelIs(x, 1, 65, CreditLink.CLOSED);
        Link.signal(x, 0, Link.LEAVE, 1, 64, 64);
        x.take(1);
        Link.channelIs(x, 1, 64, CreditLink.CLOSED);
    }
}
