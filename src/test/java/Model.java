import java.util.ArrayDeque;
import java.util.ArrayList;
import java.util.Arrays;
import java.util.List;

/**
 * The document once more, in the plainest form and with the whole library, written apart from the
 * class: RandomRunsTest compares the two.
 */
final class Model {
    private static final class Pack {
        int[] bytes;
        boolean marked;
        boolean sent;
    }

    private static final class Chan {
        int number;
        int state;
        int id;
        int mtu;
        int mps;
        int given;
        int far;
        int farMtu;
        int farMps;
        int credits;
        List<int[]> out = new ArrayList<>();
        int come;
        List<int[]> in = new ArrayList<>();
        int[] part;
        int length;
    }

    private static final class Side {
        Chan[] chans = new Chan[4];
        int[][] services = new int[10][];
        ArrayDeque<Pack> way = new ArrayDeque<>();
        ArrayDeque<int[]> signals = new ArrayDeque<>();
        int[] begun = {};
        boolean fresh;
        int[] gathered = {};
        int ids = 0;
        int last = 3;
        int units;
        int dropped;
        int rejected;
    }

    private final Side[] sides = {new Side(), new Side()};
    private int[] store = {};

    Model() {
        for (Side s : sides) {
            for (int i = 0; i < 4; i++) {
                s.chans[i] = new Chan();
                s.chans[i].number = 64 + i;
            }
        }
    }

    private static void need(boolean holds) {
        if (!holds) {
            throw new IllegalArgumentException();
        }
    }

    private static boolean within(int a, int low, int high) {
        return low <= a && a <= high;
    }

    private static int[] join(int[] a, int[] b) {
        int[] both = Arrays.copyOf(a, a.length + b.length);
        System.arraycopy(b, 0, both, a.length, b.length);
        return both;
    }

    private static int[] pairs(int... numbers) {
        return Link.numbers(numbers);
    }

    private static int pair(int[] bytes, int k) {
        return bytes[k] + 256 * bytes[k + 1];
    }

    private Chan chan(int host, int channel) {
        need(within(host, 0, 1) && within(channel, 64, 67));
        return sides[host].chans[channel - 64];
    }

    private Chan openChan(int host, int channel) {
        Chan c = chan(host, channel);
        if (c.state != CreditLink.OPEN) {
            throw new IllegalStateException();
        }
        return c;
    }

    void service(int host, int service, int mtu, int mps, int credits) {
        need(within(host, 0, 1) && within(service, 1, 9));
        need(within(mtu, 23, 100) && within(mps, 23, 100) && within(credits, 0, 1000));
        sides[host].services[service] = new int[] {mtu, mps, credits};
    }

    int connect(int host, int service, int mtu, int mps, int credits) {
        need(within(host, 0, 1) && within(service, 1, 9));
        need(within(mtu, 23, 100) && within(mps, 23, 100) && within(credits, 0, 1000));
        for (Chan c : sides[host].chans) {
            if (c.state == CreditLink.CLOSED) {
                c.state = CreditLink.ASKED;
                c.in.clear();
                c.mtu = mtu;
                c.mps = mps;
                c.given = credits;
                c.id = freshId(sides[host]);
                say(sides[host], 20, c.id, pairs(service, c.number, mtu, mps, credits));
                pump();
                return c.number;
            }
        }
        return CreditLink.FULL;
    }

    int feed(int many, int a, int b, int c, int d) {
        need(within(many, 0, 16));
        if (store.length + many > 120) {
            throw new IllegalStateException();
        }
        int[] all = new int[16];
        int[] four = {a, b, c, d};
        for (int i = 0; i < 16; i++) {
            all[i] = four[i / 4] >>> (8 * (3 - i % 4)) & 0xff;
        }
        store = join(store, Arrays.copyOf(all, many));
        return store.length;
    }

    int erase() {
        int had = store.length;
        store = new int[0];
        return had;
    }

    int send(int host, int channel) {
        Chan c = openChan(host, channel);
        if (store.length > c.farMtu || c.out.size() == 2) {
            return CreditLink.FULL;
        }
        c.out.add(store);
        store = new int[0];
        int many = c.out.size();
        pump();
        return many;
    }

    int grant(int host, int channel, int credits) {
        chan(host, channel);
        need(within(credits, 1, 1000));
        Chan c = openChan(host, channel);
        if (c.given + credits > 65535) {
            return CreditLink.FULL;
        }
        c.given += credits;
        say(sides[host], 22, freshId(sides[host]), pairs(channel, credits));
        pump();
        return c.given;
    }

    void leave(int host, int channel) {
        leaves(sides[host == 1 ? 1 : 0], openChan(host, channel));
        pump();
    }

    int take(int host) {
        need(within(host, 0, 1));
        Pack p = sides[host].way.poll();
        if (p == null) {
            return CreditLink.NONE;
        }
        taken(sides[host], p);
        pump();
        return p.bytes.length;
    }

    boolean lose(int host) {
        need(within(host, 0, 1));
        boolean was = sides[host].way.poll() != null;
        pump();
        return was;
    }

    int inject(int host, int number, int more) {
        need(within(host, 0, 1) && within(number, 0, 65535) && within(more, 0, 100));
        int[] rest = join(pairs(store.length + more, number), store);
        List<Pack> packs = new ArrayList<>();
        while (rest.length > 0) {
            Pack p = new Pack();
            p.bytes = Arrays.copyOf(rest, Math.min(27, rest.length));
            p.marked = packs.isEmpty();
            packs.add(p);
            rest = Arrays.copyOfRange(rest, p.bytes.length, rest.length);
        }
        if (packs.size() + sides[host].way.size() > 32) {
            return CreditLink.FULL;
        }
        sides[host].way.addAll(packs);
        return packs.size();
    }

    int receive(int host, int channel) {
        Chan c = chan(host, channel);
        if (c.in.isEmpty()) {
            return CreditLink.NONE;
        }
        store = c.in.remove(0);
        return store.length;
    }

    int octet(int k) {
        return within(k, 0, store.length - 1) ? store[k] : CreditLink.NONE;
    }

    int channel(int host, int channel, int what) {
        Chan c = chan(host, channel);
        need(within(what, 0, 7));
        boolean hasFar = c.state == CreditLink.OPEN || c.state == CreditLink.LEAVING;
        int[] all = {
            c.state,
            hasFar ? c.far : 0,
            hasFar ? c.credits : 0,
            c.state == CreditLink.CLOSED ? 0 : c.given,
            c.out.size(),
            c.in.size(),
            hasFar ? c.farMtu : 0,
            hasFar ? c.farMps : 0
        };
        return all[what];
    }

    int count(int host, int what) {
        need(within(host, 0, 1) && within(what, 0, 6));
        Side s = sides[host];
        int[] all = {
            4 - held(sides[1 - host]), s.way.size(), s.signals.size(),
            s.units, s.dropped, s.rejected, s.gathered.length
        };
        return all[what];
    }

    private static int held(Side receiver) {
        return (int) receiver.way.stream().filter(p -> p.sent).count();
    }

    private static int freshId(Side s) {
        s.ids = s.ids % 255 + 1;
        return s.ids;
    }

    private static void say(Side s, int code, int id, int[] body) {
        int[] head = {code, id, body.length % 256, body.length / 256};
        s.signals.add(join(head, body));
    }

    private static void leaves(Side s, Chan c) {
        c.state = CreditLink.LEAVING;
        c.id = freshId(s);
        forget(c);
        say(s, 6, c.id, pairs(c.far, c.number));
    }

    private static void forget(Chan c) {
        c.out.clear();
        c.come = 0;
        c.part = null;
    }

    private static void closes(Chan c) {
        c.state = CreditLink.CLOSED;
        forget(c);
    }

    private void pump() {
        for (int h = 0; h < 2; h++) {
            Side s = sides[h];
            Side other = sides[1 - h];
            while (held(other) < 4 && other.way.size() < 32 && begin(s)) {
                Pack p = new Pack();
                p.bytes = Arrays.copyOf(s.begun, Math.min(27, s.begun.length));
                p.marked = s.fresh;
                p.sent = true;
                other.way.add(p);
                s.fresh = false;
                s.begun = Arrays.copyOfRange(s.begun, p.bytes.length, s.begun.length);
            }
        }
    }

    private static boolean begin(Side s) {
        if (s.begun.length > 0) {
            return true;
        }
        s.fresh = true;
        if (!s.signals.isEmpty()) {
            int[] signal = s.signals.poll();
            s.begun = join(pairs(signal.length, 5), signal);
            return true;
        }
        for (int step = 1; step <= 4; step++) {
            int k = (s.last + step) % 4;
            Chan c = s.chans[k];
            if (c.state == CreditLink.OPEN && !c.out.isEmpty() && c.credits > 0) {
                s.last = k;
                int[] whole = join(pairs(c.out.get(0).length), c.out.get(0));
                int end = Math.min(whole.length, c.come + c.farMps);
                int[] segment = Arrays.copyOfRange(whole, c.come, end);
                s.begun = join(pairs(segment.length, c.far), segment);
                c.credits--;
                c.come = end;
                if (end == whole.length) {
                    c.out.remove(0);
                    c.come = 0;
                }
                return true;
            }
        }
        return false;
    }

    private static void taken(Side s, Pack p) {
        if (p.marked && s.gathered.length > 0) {
            s.gathered = new int[0];
            s.dropped++;
        }
        if (!p.marked && s.gathered.length == 0) {
            s.dropped++;
            return;
        }
        s.gathered = join(s.gathered, p.bytes);
        if (s.gathered.length > 128) {
            s.gathered = new int[0];
            s.dropped++;
            return;
        }
        if (s.gathered.length < 4 || s.gathered.length - 4 < pair(s.gathered, 0)) {
            return;
        }
        int[] unit = s.gathered;
        s.gathered = new int[0];
        if (unit.length - 4 > pair(unit, 0)) {
            s.dropped++;
            return;
        }
        s.units++;
        int[] body = Arrays.copyOfRange(unit, 4, unit.length);
        int number = pair(unit, 2);
        if (number == 5) {
            signal(s, body);
        } else if (within(number, 64, 67) && s.chans[number - 64].state == CreditLink.OPEN) {
            if (!segment(s.chans[number - 64], body)) {
                leaves(s, s.chans[number - 64]);
            }
        } else {
            s.dropped++;
        }
    }

    private static boolean segment(Chan c, int[] body) {
        if (c.given == 0 || body.length == 0 || body.length > c.mps) {
            return false;
        }
        c.given--;
        int[] more = body;
        if (c.part == null) {
            if (body.length < 2 || pair(body, 0) > c.mtu) {
                return false;
            }
            c.length = pair(body, 0);
            c.part = new int[0];
            more = Arrays.copyOfRange(body, 2, body.length);
        }
        c.part = join(c.part, more);
        if (c.part.length > c.length || c.part.length == c.length && c.in.size() == 4) {
            return false;
        }
        if (c.part.length == c.length) {
            c.in.add(c.part);
            c.part = null;
        }
        return true;
    }

    private static void signal(Side s, int[] b) {
        if (b.length < 4 || b[1] == 0) {
            return;
        }
        int id = b[1];
        int size = b.length - 4;
        String kind = b[0] + " " + size;
        boolean known = List.of("20 10", "21 10", "22 4", "6 4", "7 4", "1 2", "1 6").contains(kind);
        if (pair(b, 2) != size || !known) {
            s.rejected++;
            say(s, 1, id, pairs(0));
            return;
        }
        int[] n = new int[size / 2];
        for (int i = 0; i < n.length; i++) {
            n[i] = pair(b, 4 + 2 * i);
        }
        switch (b[0]) {
            case 20 -> request(s, id, n);
            case 21 -> answer(s, id, n);
            case 22 -> credit(s, n);
            case 6 -> {
                Chan c = within(n[0], 64, 67) ? s.chans[n[0] - 64] : null;
                if (c != null && c.state >= CreditLink.OPEN && c.far == n[1]) {
                    closes(c);
                    say(s, 7, id, pairs(n));
                } else {
                    s.rejected++;
                    say(s, 1, id, pairs(2, n[0], n[1]));
                }
            }
            case 7 -> {
                Chan c = within(n[1], 64, 67) ? s.chans[n[1] - 64] : null;
                if (c != null && c.state == CreditLink.LEAVING && c.far == n[0]) {
                    closes(c);
                }
            }
            default -> rejected(s, id);
        }
    }

    private static void rejected(Side s, int id) {
        for (Chan c : s.chans) {
            if ((c.state == CreditLink.ASKED || c.state == CreditLink.LEAVING) && c.id == id) {
                closes(c);
                return;
            }
        }
    }

    private static void request(Side s, int id, int[] n) {
        int[] service = within(n[0], 1, 9) ? s.services[n[0]] : null;
        boolean used = false;
        Chan free = null;
        for (int i = 3; i >= 0; i--) {
            Chan c = s.chans[i];
            used |= c.state >= CreditLink.OPEN && c.far == n[1];
            free = c.state == CreditLink.CLOSED ? c : free;
        }
        int result = service == null ? 2
                : n[2] < 23 || n[3] < 23 ? 11
                : !within(n[1], 64, 127) ? 9
                : used ? 10
                : free == null ? 4 : 0;
        if (result != 0) {
            say(s, 21, id, pairs(0, 0, 0, 0, result));
            return;
        }
        free.in.clear();
        free.state = CreditLink.OPEN;
        free.mtu = service[0];
        free.mps = service[1];
        free.given = service[2];
        far(free, n[1], n[2], n[3], n[4]);
        say(s, 21, id, pairs(free.number, free.mtu, free.mps, free.given, 0));
    }

    private static void far(Chan c, int far, int mtu, int mps, int credits) {
        c.far = far;
        c.farMtu = mtu;
        c.farMps = mps;
        c.credits = credits;
    }

    private static void answer(Side s, int id, int[] n) {
        for (Chan c : s.chans) {
            if (c.state == CreditLink.ASKED && c.id == id) {
                if (n[4] == 0 && within(n[0], 64, 127) && n[1] >= 23 && n[2] >= 23) {
                    c.state = CreditLink.OPEN;
                    far(c, n[0], n[1], n[2], n[3]);
                } else {
                    closes(c);
                }
                return;
            }
        }
    }

    private static void credit(Side s, int[] n) {
        for (Chan c : s.chans) {
            if (c.state == CreditLink.OPEN && c.far == n[0]) {
                if (n[1] == 0 || c.credits + n[1] > 65535) {
                    leaves(s, c);
                } else {
                    c.credits += n[1];
                }
                return;
            }
        }
    }
}
