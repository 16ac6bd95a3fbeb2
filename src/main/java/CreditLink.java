import java.util.ArrayList;

/**
 * Two hosts on a radio link: units cut into packets, signals that open channels, give credits and
 * close them, and texts in segments that go only as long as the other side has given credits.
 */
public final class CreditLink {
    public static final int NONE = -1;
    public static final int FULL = -2;
    public static final int CLOSED = 0;
    public static final int ASKED = 1;
    public static final int OPEN = 2;
    public static final int LEAVING = 3;

    private static final int HOSTS = 2;
    private static final int SERVICES = 9;
    private static final int CHANNELS = 4;
    private static final int FIRST_CHANNEL = 64;
    private static final int LAST_FAR = 127;
    private static final int LEAST_SIZE = 23;
    private static final int MOST_SIZE = 100;
    private static final int MOST_CREDITS_TOLD = 1000;
    private static final int MOST_NUMBER = 65535;
    private static final int MOST_MORE = 100;
    private static final int MOST_ID = 255;

    private static final int STORE_ROOM = 120;
    private static final int MOST_FED = 16;
    private static final int PACKET_ROOM = 27;
    private static final int WAY_ROOM = 32;
    private static final int BUFFERS = 4;
    private static final int UNIT_HEAD = 4;
    private static final int GATHER_ROOM = 128;
    private static final int TEXT_HEAD = 2;
    private static final int TEXTS_TO_SEND = 2;
    private static final int TEXTS_RECEIVED = 4;

    private static final int SIGNAL_NUMBER = 5;
    private static final int SIGNAL_HEAD = 4;
    private static final int SIGNAL_ROOM = 14;
    /** A call makes one signal at most, and an object is used for 512 calls. */
    private static final int SIGNALS_WAITING = 512;
    private static final int CODE_REJECT = 1;
    private static final int CODE_LEAVE = 6;
    private static final int CODE_LEFT = 7;
    private static final int CODE_REQUEST = 20;
    private static final int CODE_ANSWER = 21;
    private static final int CODE_CREDIT = 22;

    private static final int NOT_UNDERSTOOD = 0;
    private static final int NO_SUCH_CHANNEL = 2;

    private static final int ACCEPTED = 0;
    private static final int NO_SUCH_SERVICE = 2;
    private static final int NONE_CLOSED = 4;
    private static final int FAR_IS_WRONG = 9;
    private static final int FAR_IS_USED = 10;
    private static final int SIZE_IS_WRONG = 11;

    private final Host[] hosts;
    private final Row store;
    private final Row injected;

    public CreditLink() {
        hosts = new Host[HOSTS];
        for (int i = 0; i < HOSTS; i++) {
            hosts[i] = new Host();
        }
        store = new Row(STORE_ROOM);
        injected = new Row(UNIT_HEAD + STORE_ROOM);
    }

    public void service(int host, int service, int mtu, int mps, int credits)
            throws IllegalArgumentException {
        if (!isHost(host) || !isOffer(service, mtu, mps, credits)) {
            throw new IllegalArgumentException();
        }
        hosts[host].tellService(service, mtu, mps, credits);
    }

    public int connect(int host, int service, int mtu, int mps, int credits)
            throws IllegalArgumentException {
        if (!isHost(host) || !isOffer(service, mtu, mps, credits)) {
            throw new IllegalArgumentException();
        }
        int number = hosts[host].ask(service, mtu, mps, credits);
        sendWhatCanGo();
        return number;
    }

    public int feed(int many, int a, int b, int c, int d)
            throws IllegalArgumentException, IllegalStateException {
        if (many < 0 || many > MOST_FED) {
            throw new IllegalArgumentException();
        }
        if (store.size + many > STORE_ROOM) {
            throw new IllegalStateException();
        }
        for (int i = 0; i < many; i++) {
            int four = i < 4 ? a : i < 8 ? b : i < 12 ? c : d;
            store.add(four >> (24 - 8 * (i % 4)));
        }
        return store.size;
    }

    public int erase() {
        int had = store.size;
        store.clear();
        return had;
    }

    public int send(int host, int channel) throws IllegalArgumentException, IllegalStateException {
        if (!isHost(host) || !isChannel(channel)) {
            throw new IllegalArgumentException();
        }
        Channel on = hosts[host].channels[channel - FIRST_CHANNEL];
        if (on.state != OPEN) {
            throw new IllegalStateException();
        }
        if (!on.putText(store)) {
            return FULL;
        }
        int many = on.toSend.many;
        store.clear();
        sendWhatCanGo();
        return many;
    }

    public int grant(int host, int channel, int credits)
            throws IllegalArgumentException, IllegalStateException {
        if (!isHost(host) || !isChannel(channel) || credits < 1 || credits > MOST_CREDITS_TOLD) {
            throw new IllegalArgumentException();
        }
        Channel on = hosts[host].channels[channel - FIRST_CHANNEL];
        if (on.state != OPEN) {
            throw new IllegalStateException();
        }
        if (on.given + credits > MOST_NUMBER) {
            return FULL;
        }
        hosts[host].giveCredits(on, credits);
        sendWhatCanGo();
        return on.given;
    }

    public void leave(int host, int channel)
            throws IllegalArgumentException, IllegalStateException {
        if (!isHost(host) || !isChannel(channel)) {
            throw new IllegalArgumentException();
        }
        Channel on = hosts[host].channels[channel - FIRST_CHANNEL];
        if (on.state != OPEN) {
            throw new IllegalStateException();
        }
        hosts[host].beginLeaving(on);
        sendWhatCanGo();
    }

    public int take(int host) throws IllegalArgumentException {
        if (!isHost(host)) {
            throw new IllegalArgumentException();
        }
        Host taker = hosts[host];
        Packet packet = taker.way.firstPacket();
        if (packet == null) {
            return NONE;
        }
        int size = packet.bytes.size;
        if (taker.gather(packet)) {
            taker.handleUnit();
        }
        taker.way.dropFirst();
        sendWhatCanGo();
        return size;
    }

    public boolean lose(int host) throws IllegalArgumentException {
        if (!isHost(host)) {
            throw new IllegalArgumentException();
        }
        boolean lost = hosts[host].way.dropFirst();
        sendWhatCanGo();
        return lost;
    }

    public int inject(int host, int number, int more) throws IllegalArgumentException {
        if (!isHost(host) || number < 0 || number > MOST_NUMBER || more < 0 || more > MOST_MORE) {
            throw new IllegalArgumentException();
        }
        Way way = hosts[host].way;
        int packets = (UNIT_HEAD + store.size + PACKET_ROOM - 1) / PACKET_ROOM;
        if (!way.hasRoomFor(packets)) {
            return FULL;
        }
        injected.clear();
        injected.addNumber(store.size + more);
        injected.addNumber(number);
        injected.addPart(store, 0, store.size);
        for (int i = 0; i < packets; i++) {
            way.put(injected, i * PACKET_ROOM, false);
        }
        return packets;
    }

    public int receive(int host, int channel) throws IllegalArgumentException {
        if (!isHost(host) || !isChannel(channel)) {
            throw new IllegalArgumentException();
        }
        Texts received = hosts[host].channels[channel - FIRST_CHANNEL].received;
        Row text = received.first();
        if (text == null) {
            return NONE;
        }
        store.clear();
        store.addPart(text, 0, text.size);
        received.dropFirst();
        return store.size;
    }

    public int octet(int k) {
        return store.at(k);
    }

    public int channel(int host, int channel, int what) throws IllegalArgumentException {
        if (!isHost(host) || !isChannel(channel) || what < 0 || what > 7) {
            throw new IllegalArgumentException();
        }
        Channel of = hosts[host].channels[channel - FIRST_CHANNEL];
        switch (what) {
            case 0:
                return of.state;
            case 1:
                return of.far;
            case 2:
                return of.credits;
            case 3:
                return of.given;
            case 4:
                return of.toSend.many;
            case 5:
                return of.received.many;
            case 6:
                return of.farMtu;
            default:
                return of.farMps;
        }
    }

    public int count(int host, int what) throws IllegalArgumentException {
        if (!isHost(host) || what < 0 || what > 6) {
            throw new IllegalArgumentException();
        }
        Host of = hosts[host];
        switch (what) {
            case 0:
                return hosts[1 - host].way.freeBuffers();
            case 1:
                return of.way.many;
            case 2:
                return of.waiting.size();
            case 3:
                return of.units;
            case 4:
                return of.dropped;
            case 5:
                return of.rejected;
            default:
                return of.gathered.size;
        }
    }

    private static boolean isHost(int host) {
        return host >= 0 && host < HOSTS;
    }

    private static boolean isChannel(int number) {
        return number >= FIRST_CHANNEL && number < FIRST_CHANNEL + CHANNELS;
    }

    private static boolean isOffer(int service, int mtu, int mps, int credits) {
        return service >= 1 && service <= SERVICES
                && mtu >= LEAST_SIZE && mtu <= MOST_SIZE
                && mps >= LEAST_SIZE && mps <= MOST_SIZE
                && credits >= 0 && credits <= MOST_CREDITS_TOLD;
    }

    private static boolean isFar(int number) {
        return number >= FIRST_CHANNEL && number <= LAST_FAR;
    }

    private void sendWhatCanGo() {
        for (int i = 0; i < HOSTS; i++) {
            hosts[i].sendOn(hosts[1 - i].way);
        }
    }

    /** Bytes in a room that is made once; what would go beyond the room is left out. */
    private static final class Row {
        private final byte[] bytes;
        private int size;

        Row(int room) {
            bytes = new byte[room];
        }

        void clear() {
            size = 0;
        }

        void add(int value) {
            if (size < bytes.length) {
                bytes[size] = (byte) value;
                size++;
            }
        }

        /** Two bytes, the lower one first. */
        void addNumber(int number) {
            if (size < bytes.length - 1) {
                bytes[size] = (byte) number;
                bytes[size + 1] = (byte) (number >> 8);
                size += 2;
            }
        }

        void addPart(Row from, int start, int many) {
            for (int i = 0; i < many; i++) {
                int k = start + i;
                if (k >= 0 && k < from.size && size < bytes.length) {
                    bytes[size] = from.bytes[k];
                    size++;
                }
            }
        }

        int at(int k) {
            return k >= 0 && k < size ? bytes[k] & 255 : NONE;
        }

        int numberAt(int k) {
            return k >= 0 && k < size - 1 ? (bytes[k] & 255) | (bytes[k + 1] & 255) << 8 : 0;
        }
    }

    private static final class Packet {
        private final Row bytes;
        private boolean marked;
        /** Whether a host sent it, so that it holds one of that host's buffers. */
        private boolean sent;

        Packet() {
            bytes = new Row(PACKET_ROOM);
        }
    }

    /** The way to a host: its packets go round in a ring, so that none is made after the start. */
    private static final class Way {
        private final Packet[] packets;
        private int head;
        private int many;
        private int sentOnes;

        Way() {
            packets = new Packet[WAY_ROOM];
            for (int i = 0; i < WAY_ROOM; i++) {
                packets[i] = new Packet();
            }
        }

        boolean hasRoomFor(int more) {
            return many + more <= WAY_ROOM;
        }

        int freeBuffers() {
            return BUFFERS - sentOnes;
        }

        Packet firstPacket() {
            return many > 0 ? packets[head] : null;
        }

        /** Puts the packet of a unit that begins at a byte of it behind the others. */
        void put(Row unit, int start, boolean sent) {
            if (many < WAY_ROOM) {
                Packet packet = packets[(head + many) % WAY_ROOM];
                packet.bytes.clear();
                packet.bytes.addPart(unit, start, PACKET_ROOM);
                packet.marked = start == 0;
                packet.sent = sent;
                many++;
                sentOnes += sent ? 1 : 0;
            }
        }

        boolean dropFirst() {
            if (many == 0) {
                return false;
            }
            sentOnes -= packets[head].sent ? 1 : 0;
            head = (head + 1) % WAY_ROOM;
            many--;
            return true;
        }
    }

    /** A few texts in order, in rows that are used again. */
    private static final class Texts {
        private final Row[] rows;
        private int head;
        private int many;

        Texts(int most, int room) {
            rows = new Row[most];
            for (int i = 0; i < most; i++) {
                rows[i] = new Row(room);
            }
        }

        void clear() {
            many = 0;
        }

        Row first() {
            return many > 0 ? rows[head] : null;
        }

        /** An empty text behind the others; null if there is no room for it. */
        Row addEmpty() {
            if (many >= rows.length) {
                return null;
            }
            int k = head + many;
            Row row = rows[k < rows.length ? k : k - rows.length];
            row.clear();
            many++;
            return row;
        }

        void dropFirst() {
            if (many > 0) {
                head = head + 1 < rows.length ? head + 1 : 0;
                many--;
            }
        }
    }

    private static final class Channel {
        private final int number;
        private int state;
        /** Of the signal by which it is ASKED or LEAVING. */
        private int id;
        private int mtu;
        private int mps;
        private int given;
        private int far;
        private int farMtu;
        private int farMps;
        private int credits;
        /** Each with its length before it, as it goes in segments. */
        private final Texts toSend;
        /** How many bytes of the first text to be sent have gone in segments. */
        private int gone;
        private final Texts received;
        private final Row gathered;
        /** The length of the text that is being gathered; NONE between texts. */
        private int due;

        Channel(int number) {
            this.number = number;
            toSend = new Texts(TEXTS_TO_SEND, TEXT_HEAD + STORE_ROOM);
            received = new Texts(TEXTS_RECEIVED, MOST_SIZE);
            gathered = new Row(MOST_SIZE);
            due = NONE;
        }

        void setOwn(int mtu, int mps, int given) {
            this.mtu = mtu;
            this.mps = mps;
            this.given = given;
            received.clear();
        }

        void open(int far, int farMtu, int farMps, int credits) {
            state = OPEN;
            this.far = far;
            this.farMtu = farMtu;
            this.farMps = farMps;
            this.credits = credits;
        }

        void close() {
            state = CLOSED;
            given = 0;
            far = 0;
            farMtu = 0;
            farMps = 0;
            credits = 0;
            forgetTexts();
        }

        void forgetTexts() {
            toSend.clear();
            gone = 0;
            gathered.clear();
            due = NONE;
        }

        boolean hasFar(int number) {
            return (state == OPEN || state == LEAVING) && far == number;
        }

        /** False if there is no room for it, or it is longer than the other side takes. */
        boolean putText(Row store) {
            if (store.size > farMtu) {
                return false;
            }
            Row text = toSend.addEmpty();
            if (text == null) {
                return false;
            }
            text.addNumber(store.size);
            text.addPart(store, 0, store.size);
            return true;
        }

        boolean hasSegment() {
            return state == OPEN && toSend.many > 0 && credits > 0;
        }

        void writeSegment(Row unit) {
            Row text = toSend.first();
            if (text == null) {
                return;
            }
            int size = Math.min(farMps, text.size - gone);
            unit.addNumber(size);
            unit.addNumber(far);
            unit.addPart(text, gone, size);
            credits--;
            gone += size;
            if (gone >= text.size) {
                toSend.dropFirst();
                gone = 0;
            }
        }

        /** False if the segment in a unit is such that the channel leaves. */
        boolean readSegment(Row unit) {
            int size = unit.size - UNIT_HEAD;
            if (given == 0 || size == 0 || size > mps) {
                return false;
            }
            given--;
            int start = UNIT_HEAD;
            if (due == NONE) {
                if (size < TEXT_HEAD || unit.numberAt(UNIT_HEAD) > mtu) {
                    return false;
                }
                due = unit.numberAt(UNIT_HEAD);
                start += TEXT_HEAD;
            }
            if (gathered.size + unit.size - start > due) {
                return false;
            }
            gathered.addPart(unit, start, unit.size - start);
            return gathered.size < due || keepWholeText();
        }

        private boolean keepWholeText() {
            Row text = received.addEmpty();
            if (text == null) {
                return false;
            }
            text.addPart(gathered, 0, gathered.size);
            gathered.clear();
            due = NONE;
            return true;
        }
    }

    private static final class Host {
        private final Channel[] channels;
        /** These three by a service's number; an MTU of 0 means that it has not been told. */
        private final int[] serviceMtu;
        private final int[] serviceMps;
        private final int[] serviceCredits;
        private final Way way;
        private final ArrayList<Row> waiting;
        /** The unit that is being sent, and how many bytes of it have gone in packets. */
        private final Row begun;
        private int begunGone;
        private final Row gathered;
        private int lastId;
        private int nextSender;
        private int units;
        private int dropped;
        private int rejected;

        Host() {
            channels = new Channel[CHANNELS];
            for (int i = 0; i < CHANNELS; i++) {
                channels[i] = new Channel(FIRST_CHANNEL + i);
            }
            serviceMtu = new int[SERVICES + 1];
            serviceMps = new int[SERVICES + 1];
            serviceCredits = new int[SERVICES + 1];
            way = new Way();
            waiting = new ArrayList<Row>();
            begun = new Row(GATHER_ROOM);
            gathered = new Row(GATHER_ROOM);
        }

        void tellService(int service, int mtu, int mps, int credits) {
            serviceMtu[service] = mtu;
            serviceMps[service] = mps;
            serviceCredits[service] = credits;
        }

        boolean hasService(int service) {
            return service >= 1 && service <= SERVICES && serviceMtu[service] > 0;
        }

        int ask(int service, int mtu, int mps, int credits) {
            Channel channel = firstClosed();
            if (channel == null) {
                return FULL;
            }
            channel.setOwn(mtu, mps, credits);
            channel.state = ASKED;
            channel.id = nextId();
            Row signal = addSignal(CODE_REQUEST, channel.id, 5);
            signal.addNumber(service);
            signal.addNumber(channel.number);
            signal.addNumber(mtu);
            signal.addNumber(mps);
            signal.addNumber(credits);
            return channel.number;
        }

        void giveCredits(Channel channel, int credits) {
            channel.given += credits;
            Row signal = addSignal(CODE_CREDIT, nextId(), 2);
            signal.addNumber(channel.number);
            signal.addNumber(credits);
        }

        void beginLeaving(Channel channel) {
            channel.state = LEAVING;
            channel.id = nextId();
            channel.forgetTexts();
            Row signal = addSignal(CODE_LEAVE, channel.id, 2);
            signal.addNumber(channel.far);
            signal.addNumber(channel.number);
        }

        private int nextId() {
            lastId = lastId < MOST_ID ? lastId + 1 : 1;
            return lastId;
        }

        /** A signal that waits, still without its numbers of two bytes. */
        private Row addSignal(int code, int id, int numbers) {
            Row signal = new Row(SIGNAL_ROOM);
            signal.add(code);
            signal.add(id);
            signal.addNumber(2 * numbers);
            if (waiting.size() < SIGNALS_WAITING) {
                waiting.add(signal);
            }
            return signal;
        }

        void sendOn(Way out) {
            for (int free = out.freeBuffers(); free > 0; free--) {
                if (!out.hasRoomFor(1) || !hasUnit()) {
                    return;
                }
                out.put(begun, begunGone, true);
                begunGone = Math.min(begunGone + PACKET_ROOM, begun.size);
            }
        }

        /** Begins the next unit if nothing is left of the last one; false if there is none. */
        private boolean hasUnit() {
            return begunGone < begun.size || beginSignal() || beginSegment();
        }

        private boolean beginSignal() {
            if (waiting.isEmpty()) {
                return false;
            }
            Row signal = waiting.remove(0);
            begun.clear();
            begunGone = 0;
            begun.addNumber(signal.size);
            begun.addNumber(SIGNAL_NUMBER);
            begun.addPart(signal, 0, signal.size);
            return true;
        }

        private boolean beginSegment() {
            for (int i = 0; i < CHANNELS; i++) {
                int k = (nextSender + i) % CHANNELS;
                if (channels[k].hasSegment()) {
                    begun.clear();
                    begunGone = 0;
                    channels[k].writeSegment(begun);
                    nextSender = (k + 1) % CHANNELS;
                    return true;
                }
            }
            return false;
        }

        /** Puts a packet's bytes behind what is gathered: whether that is a whole unit now. */
        boolean gather(Packet packet) {
            if (packet.marked && gathered.size > 0) {
                dropGathered();
            }
            boolean isLost = !packet.marked && gathered.size == 0;
            if (isLost || gathered.size + packet.bytes.size > GATHER_ROOM) {
                dropGathered();
                return false;
            }
            gathered.addPart(packet.bytes, 0, packet.bytes.size);
            if (gathered.size < UNIT_HEAD) {
                return false;
            }
            int whole = UNIT_HEAD + gathered.numberAt(0);
            if (gathered.size > whole) {
                dropGathered();
                return false;
            }
            return gathered.size == whole;
        }

        private void dropGathered() {
            gathered.clear();
            dropped++;
        }

        /** What is gathered is a whole unit here. */
        void handleUnit() {
            units++;
            int number = gathered.numberAt(2);
            if (number == SIGNAL_NUMBER) {
                handleSignal();
            } else {
                handleSegment(number);
            }
            gathered.clear();
        }

        private void handleSegment(int number) {
            if (!isChannel(number) || channels[number - FIRST_CHANNEL].state != OPEN) {
                dropped++;
                return;
            }
            Channel channel = channels[number - FIRST_CHANNEL];
            if (!channel.readSegment(gathered)) {
                beginLeaving(channel);
            }
        }

        private void handleSignal() {
            int bytes = gathered.size - UNIT_HEAD - SIGNAL_HEAD;
            int code = gathered.at(UNIT_HEAD);
            int id = gathered.at(UNIT_HEAD + 1);
            if (bytes < 0 || id == 0) {
                return;
            }
            if (gathered.numberAt(UNIT_HEAD + 2) != bytes || !isSignal(code, bytes)) {
                rejected++;
                addSignal(CODE_REJECT, id, 1).addNumber(NOT_UNDERSTOOD);
                return;
            }
            switch (code) {
                case CODE_REQUEST:
                    onRequest(id);
                    break;
                case CODE_ANSWER:
                    onAnswer(id);
                    break;
                case CODE_CREDIT:
                    onCredit();
                    break;
                case CODE_LEAVE:
                    onLeave(id);
                    break;
                case CODE_LEFT:
                    onLeft();
                    break;
                default:
                    onReject(id);
                    break;
            }
        }

        private static boolean isSignal(int code, int bytes) {
            switch (code) {
                case CODE_REQUEST:
                case CODE_ANSWER:
                    return bytes == 10;
                case CODE_CREDIT:
                case CODE_LEAVE:
                case CODE_LEFT:
                    return bytes == 4;
                case CODE_REJECT:
                    return bytes == 2 || bytes == 6;
                default:
                    return false;
            }
        }

        /** The k-th number of two bytes in the signal that is gathered. */
        private int told(int k) {
            return gathered.numberAt(UNIT_HEAD + SIGNAL_HEAD + 2 * k);
        }

        private void onRequest(int id) {
            int service = told(0);
            int result = judgeRequest(service, told(1), told(2), told(3));
            Channel channel = firstClosed();
            Row answer = addSignal(CODE_ANSWER, id, 5);
            if (result == ACCEPTED && channel != null) {
                channel.setOwn(
                        serviceMtu[service], serviceMps[service], serviceCredits[service]);
                channel.open(told(1), told(2), told(3), told(4));
                answer.addNumber(channel.number);
                answer.addNumber(channel.mtu);
                answer.addNumber(channel.mps);
                answer.addNumber(channel.given);
            } else {
                for (int i = 0; i < 4; i++) {
                    answer.addNumber(0);
                }
            }
            answer.addNumber(result);
        }

        private int judgeRequest(int service, int far, int mtu, int mps) {
            if (!hasService(service)) {
                return NO_SUCH_SERVICE;
            }
            if (mtu < LEAST_SIZE || mps < LEAST_SIZE) {
                return SIZE_IS_WRONG;
            }
            if (!isFar(far)) {
                return FAR_IS_WRONG;
            }
            for (int i = 0; i < CHANNELS; i++) {
                if (channels[i].hasFar(far)) {
                    return FAR_IS_USED;
                }
            }
            return firstClosed() == null ? NONE_CLOSED : ACCEPTED;
        }

        private void onAnswer(int id) {
            Channel channel = firstBySignal(id, false);
            if (channel == null) {
                return;
            }
            boolean isGood = told(4) == ACCEPTED && isFar(told(0))
                    && told(1) >= LEAST_SIZE && told(2) >= LEAST_SIZE;
            if (isGood) {
                channel.open(told(0), told(1), told(2), told(3));
            } else {
                channel.close();
            }
        }

        private void onCredit() {
            for (int i = 0; i < CHANNELS; i++) {
                Channel channel = channels[i];
                if (channel.state == OPEN && channel.far == told(0)) {
                    if (told(1) == 0 || channel.credits + told(1) > MOST_NUMBER) {
                        beginLeaving(channel);
                    } else {
                        channel.credits += told(1);
                    }
                    return;
                }
            }
        }

        private void onLeave(int id) {
            Row answer;
            if (isChannel(told(0)) && channels[told(0) - FIRST_CHANNEL].hasFar(told(1))) {
                channels[told(0) - FIRST_CHANNEL].close();
                answer = addSignal(CODE_LEFT, id, 2);
            } else {
                rejected++;
                answer = addSignal(CODE_REJECT, id, 3);
                answer.addNumber(NO_SUCH_CHANNEL);
            }
            answer.addNumber(told(0));
            answer.addNumber(told(1));
        }

        private void onLeft() {
            if (isChannel(told(1))) {
                Channel channel = channels[told(1) - FIRST_CHANNEL];
                if (channel.state == LEAVING && channel.far == told(0)) {
                    channel.close();
                }
            }
        }

        private void onReject(int id) {
            Channel channel = firstBySignal(id, true);
            if (channel != null) {
                channel.close();
            }
        }

        private Channel firstClosed() {
            for (int i = 0; i < CHANNELS; i++) {
                if (channels[i].state == CLOSED) {
                    return channels[i];
                }
            }
            return null;
        }

        /** The first channel that is ASKED, or LEAVING where that counts, by a signal's id. */
        private Channel firstBySignal(int id, boolean orLeaving) {
            for (int i = 0; i < CHANNELS; i++) {
                Channel channel = channels[i];
                boolean counts = channel.state == ASKED || orLeaving && channel.state == LEAVING;
                if (counts && channel.id == id) {
                    return channel;
                }
            }
            return null;
        }
    }
}
