/** The SIGNALS 21, an answer, and 22, credits: what they do, and at which edges they do not. */
public final class AnswerTest {
    public static void main(String[] args) {
        anAnswerIsForTheOneAskedByItsId();
        anAnswerIsForNoneThatIsNotAsked();
        aResultOtherThan0Closes();
        aNumberFrom64To127Opens();
        anotherNumberCloses();
        sizesFrom23OnOpen();
        sizesBelow23Close();
        creditsComeToTheOpenOneWithThatFar();
        creditsForNoneDoNothing();
        creditsOf0Leave();
        creditsUpTo65535Stay();
        creditsAbove65535Leave();
        creditsAreForTheFirst();
        Check.end();
    }

    private static CreditLink asked() {
        CreditLink x = new CreditLink();
        x.connect(0, 1, 30, 31, 32);
        Link.loseAll(x, 1);
        return x;
    }

    private static void anAnswerIsForTheOneAskedByItsId() {
        Check.sentence("the CHANNEL (by that id, also below, the first one) that is ASKED by that id");
        CreditLink x = asked();
        Link.signal(x, 0, Link.ANSWER, 2, 70, 40, 41, 42, 0);
        Link.channelIs(x, 0, 64, CreditLink.ASKED, 0, 0, 32, 0, 0, 0, 0);
        Link.signal(x, 0, Link.ANSWER, 255, 70, 40, 41, 42, 1);
        Link.channelIs(x, 0, 64, CreditLink.ASKED, 0, 0, 32, 0, 0, 0, 0);
        x.connect(0, 1, 50, 51, 52);
        Link.signal(x, 0, Link.ANSWER, 2, 70, 40, 41, 42, 0);
        Link.channelIs(x, 0, 64, CreditLink.ASKED, 0, 0, 32, 0, 0, 0, 0);
        Link.channelIs(x, 0, 65, CreditLink.OPEN, 70, 42, 52, 0, 0, 40, 41);
        Link.signal(x, 0, Link.ANSWER, 1, 71, 60, 61, 62, 0);
        Link.channelIs(x, 0, 64, CreditLink.OPEN, 71, 62, 32, 0, 0, 60, 61);
    }

    private static void anAnswerIsForNoneThatIsNotAsked() {
        CreditLink x = asked();
        Link.signal(x, 0, Link.ANSWER, 1, 70, 40, 41, 42, 0);
        Link.signal(x, 0, Link.ANSWER, 1, 71, 50, 51, 52, 0);
        Link.signal(x, 0, Link.ANSWER, 1, 71, 50, 51, 52, 1);
        Link.channelIs(x, 0, 64, CreditLink.OPEN, 70, 42, 32, 0, 0, 40, 41);
        x.leave(0, 64);
        Link.signal(x, 0, Link.ANSWER, 2, 71, 50, 51, 52, 1);
        Link.channelIs(x, 0, 64, CreditLink.LEAVING);
        Link.signal(x, 0, Link.LEFT, 2, 70, 64);
        Link.signal(x, 0, Link.ANSWER, 2, 71, 50, 51, 52, 0);
        Link.channelIs(x, 0, 64, CreditLink.CLOSED);
        Link.countsAre(x, 0, 3, 0, 0, 6, 0, 0, 0);
    }

    private static void afterAnswer(int due, int... numbers) {
        CreditLink x = asked();
        Link.signal(x, 0, Link.ANSWER, 1, numbers);
        if (due == CreditLink.OPEN) {
            Link.channelIs(x, 0, 64, due, numbers[0], numbers[3], 32, 0, 0, numbers[1], numbers[2]);
        } else {
            Link.channelIs(x, 0, 64, due, 0, 0, 0, 0, 0, 0, 0);
        }
        Check.same("nothing is REJECTED", x.count(0, Link.REJECTED), 0);
    }

    private static void aResultOtherThan0Closes() {
        Check.sentence("OPEN, if the result is 0");
        afterAnswer(CreditLink.OPEN, 64, 23, 23, 7, 0);
        int[] results = {1, 2, 4, 9, 10, 11, 256, 65535};
        for (int result : results) {
            afterAnswer(CreditLink.CLOSED, 64, 23, 23, 7, result);
        }
    }

    private static void aNumberFrom64To127Opens() {
        Check.sentence("the number 64 .. 127");
        afterAnswer(CreditLink.OPEN, 64, 23, 23, 0, 0);
        afterAnswer(CreditLink.OPEN, 68, 23, 23, 0, 0);
        afterAnswer(CreditLink.OPEN, 127, 23, 23, 65535, 0);
    }

    private static void anotherNumberCloses() {
        int[] numbers = {0, 63, 128, 64 + 256, 65535};
        for (int number : numbers) {
            afterAnswer(CreditLink.CLOSED, number, 23, 23, 0, 0);
        }
    }

    private static void sizesFrom23OnOpen() {
        Check.sentence("MTU and MPS 23 or more; else CLOSED");
        afterAnswer(CreditLink.OPEN, 64, 23, 23, 0, 0);
        afterAnswer(CreditLink.OPEN, 64, 65535, 65535, 0, 0);
    }

    private static void sizesBelow23Close() {
        afterAnswer(CreditLink.CLOSED, 64, 22, 23, 0, 0);
        afterAnswer(CreditLink.CLOSED, 64, 23, 22, 0, 0);
        afterAnswer(CreditLink.CLOSED, 64, 0, 23, 0, 0);
        afterAnswer(CreditLink.CLOSED, 64, 23, 0, 0, 0);
    }

    private static CreditLink open(int credits) {
        return Link.lonely(23, 23, 0, 80, 23, 23, credits);
    }

    private static void creditsComeToTheOpenOneWithThatFar() {
        Check.sentence("the OPEN CHANNEL whose FAR is that number: more CREDITS");
        CreditLink x = open(0);
        Link.signal(x, 0, Link.CREDIT, 1, 80, 1);
        Link.channelIs(x, 0, 64, CreditLink.OPEN, 80, 1);
        Link.signal(x, 0, Link.CREDIT, 1, 80, 300);
        Link.channelIs(x, 0, 64, CreditLink.OPEN, 80, 301);
    }

    private static void creditsForNoneDoNothing() {
        Check.sentence("(without such a CHANNEL nothing happens)");
        CreditLink x = open(5);
        int[] numbers = {0, 64, 79, 81, 80 + 256};
        for (int number : numbers) {
            Link.signal(x, 0, Link.CREDIT, 1, number, 300);
            Link.signal(x, 0, Link.CREDIT, 1, number, 0);
            Link.channelIs(x, 0, 64, CreditLink.OPEN, 80, 5);
        }
        x.leave(0, 64);
        Link.signal(x, 0, Link.CREDIT, 1, 80, 300);
        Link.channelIs(x, 0, 64, CreditLink.LEAVING, 80, 5);
        Link.signal(x, 0, Link.LEFT, 1, 80, 64);
        Link.signal(x, 0, Link.CREDIT, 1, 80, 300);
        Link.channelIs(x, 0, 64, 0, 0, 0, 0, 0, 0, 0, 0);
        x.connect(0, 1, 23, 23, 0);
        Link.signal(x, 0, Link.CREDIT, 1, 0, 0);
        Link.channelIs(x, 0, 64, CreditLink.ASKED, 0, 0, 0, 0, 0, 0, 0);
        Link.countsAre(x, 0, 2, 0, 0, 15, 0, 0, 0);
    }

    private static void creditsOf0Leave() {
        Check.sentence("if that is 0 more, .. it LEAVES");
        CreditLink x = open(5);
        Link.signal(x, 0, Link.CREDIT, 1, 80, 0);
        Link.channelIs(x, 0, 64, CreditLink.LEAVING, 80, 5);
        Check.same("a signal 6 goes", x.take(1), 12);
    }

    private static void creditsUpTo65535Stay() {
        Check.sentence("or it would have more than 65535, it LEAVES");
        CreditLink x = open(5);
        Link.signal(x, 0, Link.CREDIT, 1, 80, 65530);
        Link.channelIs(x, 0, 64, CreditLink.OPEN, 80, 65535);
        Check.same("nothing goes", x.take(1), CreditLink.NONE);
        CreditLink y = open(0);
        Link.signal(y, 0, Link.CREDIT, 1, 80, 65535);
        Link.channelIs(y, 0, 64, CreditLink.OPEN, 80, 65535);
    }

    private static void creditsAbove65535Leave() {
        int[][] wrong = {{5, 65531}, {1, 65535}, {65535, 1}, {65535, 65535}};
        for (int[] row : wrong) {
            CreditLink x = open(row[0]);
            Link.signal(x, 0, Link.CREDIT, 1, 80, row[1]);
            Link.channelIs(x, 0, 64, CreditLink.LEAVING, 80, row[0]);
            Check.same("a signal 6 goes", x.take(1), 12);
        }
    }

    /** Answers out of nowhere open two channels with one FAR. */
    private static void creditsAreForTheFirst() {
        Check.sentence("(by that id, also below, the first one)");
        CreditLink x = new CreditLink();
        for (int id = 1; id <= 2; id++) {
            x.connect(0, 1, 30, 31, 32);
            Link.signal(x, 0, Link.ANSWER, id, 70, 23, 23, 5, 0);
        }
        Link.signal(x, 0, Link.CREDIT, 9, 70, 2);
        Link.channelIs(x, 0, 64, CreditLink.OPEN, 70, 7);
        Link.channelIs(x, 0, 65, CreditLink.OPEN, 70, 5);
        x.leave(0, 64);
        Link.signal(x, 0, Link.CREDIT, 9, 70, 2);
        Link.channelIs(x, 0, 64, CreditLink.LEAVING, 70, 7);
        Link.channelIs(x, 0, 65, CreditLink.OPEN, 70, 7);
    }
}
