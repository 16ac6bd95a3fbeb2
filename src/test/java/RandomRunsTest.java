import java.util.Arrays;
import java.util.Random;
import java.util.function.IntSupplier;

/** Runs of up to 512 calls from fixed seeds: class and model answer the same. */
public final class RandomRunsTest {
    private static final int RUNS = 8000;
    private static final int CALLS = 512;
    /** What the last step and the picture at the end of a run may need of the calls. */
    private static final int LAST_CALLS = 120;
    private static final int[] WILD = {
        Integer.MIN_VALUE, -65536, -2, -1, 0, 1, 2, 4, 7, 9, 10, 16, 17, 22, 23, 63, 64, 67, 68, 100, 101,
        127, 128, 255, 256, 1000, 1001, 65535, 65536, Integer.MAX_VALUE
    };

    private final Random random;
    private final CreditLink x = new CreditLink();
    private final Model m = new Model();
    private int calls = 0;
    private final int wildness;

    private RandomRunsTest(int seed) {
        random = new Random(seed);
        wildness = seed % 3 == 0 ? 30 : 200;
    }

    public static void main(String[] args) {
        for (int seed = 1; seed <= RUNS; seed++) {
            new RandomRunsTest(seed).run(seed);
        }
        Check.end();
    }

    private void run(int seed) {
        Check.sentence("seed " + seed);
        while (calls < CALLS - LAST_CALLS) {
            step();
            look();
        }
        both("erase", x::erase, m::erase);
        Check.same("the state after " + calls + " calls", Link.picture(x), Link.picture(m));
    }

    /** A question in between, which changes nothing. */
    private void look() {
        int host = below(2);
        int channel = 64 + below(one(1, 2, 4));
        int what = below(8);
        int k = below(one(2, 30, 130)) - 1;
        int die = below(8);
        if (die < 4) {
            both("channel(" + host + ", " + channel + ", " + what + ")",
                    () -> x.channel(host, channel, what), () -> m.channel(host, channel, what));
        } else if (die < 7) {
            both("count(" + host + ", " + what + ")", () -> x.count(host, what), () -> m.count(host, what));
        } else {
            both("octet(" + k + ")", () -> x.octet(k), () -> m.octet(k));
        }
    }

    private int below(int bound) {
        return random.nextInt(bound);
    }

    /** Mostly the number itself, now and then a wild one. */
    private int or(int number) {
        return below(wildness) == 0 ? WILD[below(WILD.length)] : number;
    }

    private int one(int... of) {
        return of[below(of.length)];
    }

    private void both(String call, IntSupplier first, IntSupplier second) {
        calls++;
        Check.same("call " + calls + ", " + call, answer(first), answer(second));
    }

    private static String answer(IntSupplier call) {
        try {
            return "" + call.getAsInt();
        } catch (RuntimeException e) {
            return e.getClass().getSimpleName();
        }
    }

    private void step() {
        int host = or(below(2));
        int channel = or(64 + below(one(1, 2, 4)));
        int die = below(100);
        if (die < 30) {
            both("take(" + host + ")", () -> x.take(host), () -> m.take(host));
        } else if (die < 34) {
            both("lose(" + host + ")", () -> x.lose(host) ? 1 : 0, () -> m.lose(host) ? 1 : 0);
        } else if (die < 50) {
            open(host);
        } else if (die < 62) {
            send(host, channel);
        } else if (die < 69) {
            int credits = or(one(1, 1, 2, 3, 5, 1000));
            both("grant", () -> x.grant(host, channel, credits), () -> m.grant(host, channel, credits));
        } else if (die < 71) {
            both("leave(" + host + ", " + channel + ")", () -> {
                x.leave(host, channel);
                return 0;
            }, () -> {
                m.leave(host, channel);
                return 0;
            });
        } else if (die < 76) {
            both("receive(" + host + ", " + channel + ")",
                    () -> x.receive(host, channel), () -> m.receive(host, channel));
        } else if (die < 78) {
            int what = or(below(8));
            both("channel", () -> x.channel(host, channel, what), () -> m.channel(host, channel, what));
            both("count", () -> x.count(host, what), () -> m.count(host, what));
            both("octet(" + what + ")", () -> x.octet(what), () -> m.octet(what));
        } else if (die < 90) {
            injectSignal(host);
        } else if (die < 95) {
            injectSegment(host, channel);
        } else {
            feedSome(below(40));
            injectStore(host, one(5, 64, 65, 70, 9, or(0)), one(0, 0, 1, 30, or(100)));
        }
    }

    private void open(int host) {
        int service = or(1 + below(3));
        int mtu = or(one(23, 24, 30, 50, 100));
        int mps = or(one(23, 24, 30, 50, 100));
        int credits = or(one(0, 1, 2, 3, 10, 1000));
        if (below(2) == 0) {
            both("service", () -> {
                x.service(host, service, mtu, mps, credits);
                return 0;
            }, () -> {
                m.service(host, service, mtu, mps, credits);
                return 0;
            });
        } else {
            both("connect", () -> x.connect(host, service, mtu, mps, credits),
                    () -> m.connect(host, service, mtu, mps, credits));
        }
    }

    private void feedSome(int bytes) {
        both("erase", x::erase, m::erase);
        for (int left = bytes; left > 0; left -= 16) {
            feed(or(Math.min(left, 16)));
        }
    }

    private void feed(int many) {
        int a = random.nextInt();
        int b = random.nextInt();
        both("feed(" + many + ")", () -> x.feed(many, a, b, ~a, ~b), () -> m.feed(many, a, b, ~a, ~b));
    }

    private void send(int host, int channel) {
        feedSome(one(0, 1, 20, 21, 22, 23, 30, 60, below(121)));
        both("send(" + host + ", " + channel + ")",
                () -> x.send(host, channel), () -> m.send(host, channel));
    }

    private void feedBytes(int... bytes) {
        both("erase", x::erase, m::erase);
        for (int i = 0; i < bytes.length; i += 16) {
            int many = Math.min(16, bytes.length - i);
            int a = Link.four(bytes, i);
            int b = Link.four(bytes, i + 4);
            int c = Link.four(bytes, i + 8);
            int d = Link.four(bytes, i + 12);
            both("feed(" + many + ")", () -> x.feed(many, a, b, c, d), () -> m.feed(many, a, b, c, d));
        }
    }

    private void injectStore(int host, int number, int more) {
        both("inject(" + host + ", " + number + ", " + more + ")",
                () -> x.inject(host, number, more), () -> m.inject(host, number, more));
    }

    private void injectSignal(int host) {
        int code = one(20, 20, 21, 22, 22, 6, 7, 1, below(256));
        int near = 64 + below(one(1, 4, 5));
        int far = or(64 + below(one(1, 4, 64)));
        int size = or(one(22, 23, 30, 65535));
        int[] numbers = switch (code) {
            case 20 -> new int[] {or(1 + below(3)), far, size, or(23), one(0, 1, 5, 65535)};
            case 21 -> new int[] {far, size, or(23), one(0, 1, 5, 65535), one(0, 0, 0, 1)};
            case 22 -> new int[] {far, one(0, 1, 3, 65535, 65530)};
            case 6 -> new int[] {near, far};
            case 7 -> new int[] {far, near};
            default -> new int[one(0, 1, 2, 3)];
        };
        int[] body = Link.numbers(numbers);
        int cut = below(20) == 0 ? below(4 + body.length) : 4 + body.length;
        int[] bytes = new int[4 + body.length];
        bytes[0] = code;
        bytes[1] = below(20) == 0 ? 0 : 1 + below(one(3, 10, 255));
        bytes[2] = below(20) == 0 ? body.length + 1 : body.length;
        System.arraycopy(body, 0, bytes, 4, body.length);
        feedBytes(Arrays.copyOf(bytes, cut));
        injectStore(host, 5, 0);
    }

    private void injectSegment(int host, int channel) {
        int length = one(0, 1, 5, 23, 24, 30, 101);
        int size = one(0, 1, 2, 3, length + 2, 23, 24, 30);
        int[] bytes = new int[Math.min(size, 120)];
        for (int i = 0; i < bytes.length; i++) {
            bytes[i] = i == 0 ? length : i == 1 ? 0 : below(256);
        }
        feedBytes(bytes);
        injectStore(host, channel, 0);
    }
}
