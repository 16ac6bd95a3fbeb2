/** An object is used for at most 512 calls: up to the last of them all of it holds. */
public final class CallsTest {
    private static final int MOST = 512;

    public static void main(String[] args) {
        Check.sentence("An object is used for at most 512 calls after it has been made");
        holdsEverySignalThatWaits();
        sendsEverySignalThatWaited();
        goesOnWithTexts();
        goesOnWithChannels();
        Check.end();
    }

    /** Four calls: channel 64 of both hosts is open. */
    private static CreditLink opened() {
        CreditLink x = new CreditLink();
        x.service(1, 3, 40, 25, 2);
        x.connect(0, 3, 50, 23, 1);
        x.take(1);
        x.take(0);
        return x;
    }

    private static void holdsEverySignalThatWaits() {
        CreditLink x = opened();
        for (int calls = 5; calls < MOST; calls++) {
            Check.same("grant", x.grant(0, 64, 1), calls - 3);
        }
        Check.same("signals that wait", x.count(0, Link.WAITING), MOST - 5 - 4);
    }

    private static void sendsEverySignalThatWaited() {
        CreditLink x = opened();
        int many = (MOST - 4 - 2) / 2;
        for (int i = 0; i < many; i++) {
            x.grant(0, 64, 1 + i);
        }
        for (int i = 0; i < many; i++) {
            Check.same("take", x.take(1), 12);
        }
        Check.same("CREDITS", x.channel(1, 64, Link.CREDITS), 1 + many * (many + 1) / 2);
        Check.same("signals that wait", x.count(0, Link.WAITING), 0);
    }

    /** Five calls a round: each text uses a credit, which is given again. */
    private static void goesOnWithTexts() {
        CreditLink x = opened();
        for (int calls = 4; calls + 5 <= MOST; calls += 5) {
            Check.same("send", x.send(0, 64), 1);
            Check.same("take", x.take(1), 6);
            Check.same("receive", x.receive(1, 64), 0);
            Check.same("grant", x.grant(1, 64, 1), 2);
            Check.same("take", x.take(0), 12);
        }
    }

    /** Six calls a round: a channel is opened, and closed again. */
    private static void goesOnWithChannels() {
        CreditLink x = opened();
        for (int calls = 4; calls + 6 <= MOST; calls += 6) {
            x.leave(calls % 4 / 2, 64);
            Check.same("take", x.take(1 - calls % 4 / 2), 12);
            Check.same("take", x.take(calls % 4 / 2), 12);
            Check.same("connect", x.connect(0, 3, 50, 23, 1), 64);
            Check.same("take", x.take(1), 18);
            Check.same("take", x.take(0), 18);
        }
    }
}
