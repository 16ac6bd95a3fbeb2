import java.util.function.IntBinaryOperator;
import java.util.function.IntUnaryOperator;

/** Short ways to bring a CreditLink into the state that a test needs. */
final class Link {
    static final int REJECT = 1;
    static final int LEAVE = 6;
    static final int LEFT = 7;
    static final int REQUEST = 20;
    static final int ANSWER = 21;
    static final int CREDIT = 22;

    static final int STATE = 0;
    static final int FAR = 1;
    static final int CREDITS = 2;
    static final int GIVEN = 3;
    static final int TO_SEND = 4;
    static final int RECEIVED = 5;
    static final int FAR_MTU = 6;
    static final int FAR_MPS = 7;

    static final int FREE = 0;
    static final int ON_WAY = 1;
    static final int WAITING = 2;
    static final int UNITS = 3;
    static final int DROPPED = 4;
    static final int REJECTED = 5;
    static final int GATHERED = 6;

    /** More packets than a test ever has: a program that goes wrong fails, and does not hang. */
    private static final int MANY = 600;

    private Link() {
    }

    /** Makes these bytes, and no others, the store. */
    static void store(CreditLink x, int... bytes) {
        x.erase();
        for (int i = 0; i < bytes.length; i += 16) {
            x.feed(Math.min(16, bytes.length - i),
                    four(bytes, i), four(bytes, i + 4), four(bytes, i + 8), four(bytes, i + 12));
        }
    }

    /** Four bytes of a row as a number for feed, the highest first. */
    static int four(int[] bytes, int from) {
        int all = 0;
        for (int k = from; k < from + 4; k++) {
            all = all << 8 | (k < bytes.length ? bytes[k] & 255 : 0);
        }
        return all;
    }

    /** Bytes 1, 2, .. as the store. */
    static void storeOf(CreditLink x, int many) {
        int[] bytes = new int[many];
        for (int i = 0; i < many; i++) {
            bytes[i] = i + 1;
        }
        store(x, bytes);
    }

    static int[] numbers(int... numbers) {
        int[] bytes = new int[2 * numbers.length];
        for (int i = 0; i < numbers.length; i++) {
            bytes[2 * i] = numbers[i] & 255;
            bytes[2 * i + 1] = numbers[i] >> 8 & 255;
        }
        return bytes;
    }

    /** A signal with a head and two bytes for each number, as the store. */
    static void storeSignal(CreditLink x, int code, int id, int... numbers) {
        int[] body = numbers(numbers);
        int[] bytes = new int[4 + body.length];
        bytes[0] = code;
        bytes[1] = id;
        bytes[2] = body.length;
        System.arraycopy(body, 0, bytes, 4, body.length);
        store(x, bytes);
    }

    /** A host takes a signal out of nowhere, and whatever was on its way before. */
    static void signal(CreditLink x, int host, int code, int id, int... numbers) {
        storeSignal(x, code, id, numbers);
        x.inject(host, 5, 0);
        takeAll(x, host);
    }

    /** A host takes a unit out of nowhere, and whatever was on its way before. */
    static void unit(CreditLink x, int host, int number, int... bytes) {
        store(x, bytes);
        x.inject(host, number, 0);
        takeAll(x, host);
    }

    static int takeAll(CreditLink x, int host) {
        int many = 0;
        while (many < MANY && x.take(host) != CreditLink.NONE) {
            many++;
        }
        return many;
    }

    static void loseAll(CreditLink x, int host) {
        int most = MANY;
        while (most > 0 && x.lose(host)) {
            most--;
        }
    }

    /** The way to a host is full of injected packets, so that nothing can be sent on it. */
    static void block(CreditLink x, int host) {
        x.erase();
        int most = MANY;
        while (most > 0 && x.inject(host, 9, 0) != CreditLink.FULL) {
            most--;
        }
    }

    /** Both hosts take all until nothing is on the ways. */
    static void settle(CreditLink x) {
        for (int i = 0; i < 100; i++) {
            if (takeAll(x, 0) + takeAll(x, 1) == 0) {
                return;
            }
        }
    }

    /** Channel 64 of both hosts is open: host 0 asked, with 50, 23, 1; host 1 has 40, 25, 2. */
    static CreditLink opened() {
        return opened(50, 23, 1, 40, 25, 2);
    }

    static CreditLink opened(int mtu, int mps, int credits, int farMtu, int farMps, int farCredits) {
        CreditLink x = new CreditLink();
        x.service(1, 3, farMtu, farMps, farCredits);
        x.connect(0, 3, mtu, mps, credits);
        settle(x);
        return x;
    }

    /** A channel of host 0 is open towards nobody: far is a number that host 1 does not know. */
    static CreditLink lonely(int mtu, int mps, int given, int far, int farMtu, int farMps, int credits) {
        CreditLink x = new CreditLink();
        x.service(0, 1, mtu, mps, given);
        signal(x, 0, REQUEST, 9, 1, far, farMtu, farMps, credits);
        loseAll(x, 1);
        return x;
    }

    interface ChannelAnswer {
        int of(int host, int channel, int what);
    }

    /** All that can be asked for without a change. */
    static String picture(CreditLink x) {
        return picture(x::channel, x::count, x::octet);
    }

    static String picture(Model m) {
        return picture(m::channel, m::count, m::octet);
    }

    private static String picture(ChannelAnswer channels, IntBinaryOperator counts, IntUnaryOperator octets) {
        StringBuilder all = new StringBuilder();
        for (int host = 0; host < 2; host++) {
            for (int channel = 64; channel < 68; channel++) {
                all.append(" c").append(host).append('.').append(channel).append(':');
                for (int what = 0; what < 8; what++) {
                    all.append(channels.of(host, channel, what)).append(',');
                }
            }
            all.append(" n").append(host).append(':');
            for (int what = 0; what < 7; what++) {
                all.append(counts.applyAsInt(host, what)).append(',');
            }
        }
        all.append(" s:");
        int octet = octets.applyAsInt(0);
        for (int k = 1; octet != CreditLink.NONE; k++) {
            all.append(octet).append(',');
            octet = octets.applyAsInt(k);
        }
        return all.toString();
    }

    private static final int IDS_LOOKED_AT = 7;

    /** Calls that show what cannot be asked for: services, and the ids that come next. */
    static String goOn(CreditLink x) {
        settle(x);
        x.connect(0, 1, 30, 31, 32);
        x.connect(1, 1, 30, 31, 32);
        settle(x);
        StringBuilder all = new StringBuilder(states(x, 0)).append(states(x, 1));
        for (int host = 0; host < 2; host++) {
            beginSomething(x, host);
            loseAll(x, 1 - host);
            for (int id = 1; id <= IDS_LOOKED_AT; id++) {
                signal(x, host, REJECT, id, 0);
                all.append(states(x, host));
            }
        }
        return all.toString();
    }

    /** A signal with an id of the host's own, by which a channel is ASKED or LEAVING. */
    private static void beginSomething(CreditLink x, int host) {
        if (x.connect(host, 1, 30, 31, 32) != CreditLink.FULL) {
            return;
        }
        for (int channel = 64; channel < 68; channel++) {
            if (x.channel(host, channel, STATE) == CreditLink.OPEN) {
                x.leave(host, channel);
                return;
            }
        }
    }

    private static String states(CreditLink x, int host) {
        StringBuilder all = new StringBuilder(" ");
        for (int channel = 64; channel < 68; channel++) {
            all.append(x.channel(host, channel, STATE));
        }
        return all.toString();
    }

    static void channelIs(CreditLink x, int host, int channel, int... due) {
        for (int what = 0; what < due.length; what++) {
            String call = "channel(" + host + ", " + channel + ", " + what + ")";
            Check.same(call, x.channel(host, channel, what), due[what]);
        }
    }

    static void countsAre(CreditLink x, int host, int... due) {
        for (int what = 0; what < due.length; what++) {
            Check.same("count(" + host + ", " + what + ")", x.count(host, what), due[what]);
        }
    }
}
