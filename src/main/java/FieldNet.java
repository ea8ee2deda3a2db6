/** A small field network: a master and four nodes on one bus. */
public final class FieldNet {
    private static final int NODES = 4;
    private static final int NEVER = -1;

    // Who put a frame: a node by its number, the master, or someone outside.
    private static final int MASTER = 0;
    private static final int OUTSIDE = -1;

    private static final int COMMAND = 0;
    private static final int SYNC = 128;
    private static final int EMERGENCY = 128;
    private static final int SAMPLE = 384;
    private static final int ANSWER = 1408;
    private static final int REQUEST = 1536;
    private static final int BEAT = 1792;
    private static final int HIGHEST_ID = 2047;

    private static final int OFF = 0;
    private static final int STOPPED = 4;
    private static final int RUNNING = 5;
    private static final int PREPARED = 127;

    private static final int TO_RUN = 1;
    private static final int TO_STOP = 2;
    private static final int TO_PREPARE = 128;
    private static final int TO_RESET = 129;

    private static final int IDENTITY = 0;
    private static final int ERROR = 1;
    private static final int PERIOD = 2;
    private static final int WATCH = 3;
    private static final int TYPE = 4;
    private static final int PAUSE = 5;
    private static final int MAP = 6;
    private static final int SOURCE = 7;
    private static final int FIRST_INPUT = 8;
    private static final int LAST_INPUT = 11;
    private static final int FIRST_OUTPUT = 12;
    private static final int LAST_OUTPUT = 15;
    private static final int OBJECTS = 16;
    private static final int NAME = 16;
    private static final int HIGHEST_ASKED_OBJECT = 31;

    // What A of a request asks.
    private static final int WRITE = 1;
    private static final int READ = 2;
    private static final int READ_ON = 3;

    // What A of an answer tells.
    private static final int WRITTEN = 1;
    private static final int VALUE = 2;
    private static final int LENGTH = 3;
    private static final int PART = 4;
    private static final int REFUSED = 9;

    // The codes with which a transfer can end.
    private static final int DONE = 0;
    private static final int NO_OBJECT = 1;
    private static final int NOT_WRITABLE = 2;
    private static final int BAD_VALUE = 3;
    private static final int NOT_WHILE_RUNNING = 4;
    private static final int NOT_READ_OUT = 5;
    private static final int NO_SUCH_REQUEST = 6;
    private static final int TOO_LATE = 7;

    private static final int WATCHED_LOST = 1;
    private static final int FAILED = 2;
    private static final int PART_SIZE = 4;
    private static final int HIGHEST_TIME = 50;
    private static final int HIGHEST_PAUSE = 20;
    private static final int HIGHEST_TYPE = 4;
    private static final int HIGHEST_SYNC_PERIOD = 20;
    private static final int HIGHEST_IDENTITY = 9999;
    private static final int HIGHEST_FAILURE = 31;
    private static final int MOST_DISTURBED = 9;
    private static final int SLOTS = 3;

    private static final int NOT_EXPECTED = -1;
    private static final int PHASE_WAITS = 1;
    private static final int PHASE_IDENTIFIES = 2;
    private static final int PHASE_WRITES = 3;
    private static final int PHASE_BOOTED = 4;
    private static final int PHASE_OTHER_IDENTITY = 5;
    private static final int PHASE_REFUSED = 6;
    private static final int PHASE_SILENT = 7;

    private static final int REPORT_APPEARED = 1;
    private static final int REPORT_BOOTED = 2;
    private static final int REPORT_NOT_BOOTED = 3;
    private static final int REPORT_LOST = 4;
    private static final int REPORT_EMERGENCY = 5;

    private final Wire wire;
    private final Master master;
    /** By number; there is none at 0. */
    private final Node[] nodes;

    public FieldNet() {
        wire = new Wire();
        master = new Master();
        nodes = new Node[NODES + 1];
        for (int n = 1; n <= NODES; n++) {
            nodes[n] = new Node(n);
        }
    }

    public boolean power(int n, boolean on) {
        if (!isNode(n) || nodes[n].isOn() == on) {
            return false;
        }
        if (on) {
            nodes[n].reset(wire);
        } else {
            nodes[n].switchOff(wire);
        }
        return true;
    }

    public boolean identify(int n, int id) {
        if (!isNode(n) || nodes[n].isOn() || !isWithin(id, 0, HIGHEST_IDENTITY)) {
            return false;
        }
        nodes[n].takeIdentity(id);
        return true;
    }

    public boolean input(int n, int i, int v) {
        if (!isNode(n) || !nodes[n].isOn() || !isInput(i)) {
            return false;
        }
        nodes[n].takeInput(i, v, wire);
        return true;
    }

    public boolean fail(int n, int code) {
        if (!isNode(n) || !nodes[n].isOn() || !isWithin(code, 0, HIGHEST_FAILURE)) {
            return false;
        }
        nodes[n].takeFailure(code, wire);
        return true;
    }

    public boolean expect(int n, int id, int time) {
        if (!isNode(n) || !isWithin(id, NOT_EXPECTED, HIGHEST_IDENTITY) || !isWithin(time, 0, HIGHEST_TIME)) {
            return false;
        }
        master.members[n].expectAnew(id, time);
        return true;
    }

    public boolean configure(int n, int object, int v) {
        return isNode(n) && isWithin(object, 0, NAME) && master.members[n].addWrite(object, v);
    }

    public boolean transfer(int n, int object, boolean write, int v) {
        if (!isNode(n) || !isWithin(object, 0, HIGHEST_ASKED_OBJECT) || master.client.busy) {
            return false;
        }
        master.beginForCaller(n, object, write, v, wire);
        return true;
    }

    public boolean sync(int period) {
        if (!isWithin(period, 0, HIGHEST_SYNC_PERIOD)) {
            return false;
        }
        master.syncPeriod = period;
        return true;
    }

    public boolean inject(int id, int a, int b, int c) {
        if (!isWithin(id, 0, HIGHEST_ID) || wire.isFull()) {
            return false;
        }
        wire.put(OUTSIDE, id, a, b, c);
        return true;
    }

    public boolean disturb(int k) {
        if (!isWithin(k, 0, MOST_DISTURBED)) {
            return false;
        }
        wire.disturbed = k;
        return true;
    }

    public int tick() {
        wire.now++;
        for (int n = 1; n <= NODES; n++) {
            nodes[n].live(wire);
        }
        master.live(wire);
        int carried = 0;
        for (int slot = 0; slot < SLOTS; slot++) {
            Frame frame = wire.useSlot();
            if (frame != null) {
                deliver(frame);
                carried++;
            }
        }
        return carried;
    }

    public int object(int n, int k) {
        return isNode(n) ? nodes[n].valueOf(k) : -1;
    }

    public int state(int n) {
        return isNode(n) ? nodes[n].state : -1;
    }

    public int phase(int n) {
        return isNode(n) ? master.members[n].phase : -1;
    }

    public int client(int k) {
        return master.client.detail(k);
    }

    public int text(int i) {
        return master.client.letter(i);
    }

    public int report(int i) {
        return master.reportAt(i);
    }

    public int bus(int i, int k) {
        return i == -1 ? wire.figure(k) : wire.numberOfFrame(i, k);
    }

    private void deliver(Frame frame) {
        if (frame.from != MASTER) {
            master.hear(frame, wire);
        }
        for (int n = 1; n <= NODES; n++) {
            if (frame.from != n) {
                nodes[n].hear(frame, wire);
            }
        }
    }

    private static boolean isWithin(int v, int low, int high) {
        return v >= low && v <= high;
    }

    private static boolean isNode(int n) {
        return n >= 1 && n <= NODES;
    }

    private static boolean isInput(int k) {
        return k >= FIRST_INPUT && k <= LAST_INPUT;
    }

    private static boolean isOutput(int k) {
        return k >= FIRST_OUTPUT && k <= LAST_OUTPUT;
    }

    /** What is on the bus; it is made once and filled again and again. */
    private static final class Frame {
        private int from;
        private int id;
        private int a;
        private int b;
        private int c;

        private int numberAt(int k) {
            switch (k) {
                case 0:
                    return id;
                case 1:
                    return a;
                case 2:
                    return b;
                case 3:
                    return c;
                default:
                    return -1;
            }
        }
    }

    /** The bus with its pending frames, and the time that all stations share. */
    private static final class Wire {
        private static final int MOST_PENDING = 24;

        /** The first count are pending, in the order in which they were put. */
        private final Frame[] frames;
        /** The frame carried latest: its numbers must last while stations that hear it put others. */
        private Frame spare;
        private int count;
        private int lost;
        private int errors;
        private int disturbed;
        private int now;

        private Wire() {
            frames = new Frame[MOST_PENDING];
            for (int i = 0; i < MOST_PENDING; i++) {
                frames[i] = new Frame();
            }
            spare = new Frame();
        }

        private boolean isFull() {
            return count >= MOST_PENDING;
        }

        private void put(int from, int id, int a, int b, int c) {
            if (count >= MOST_PENDING) {
                lost++;
                return;
            }
            Frame frame = frames[count];
            frame.from = from;
            frame.id = id;
            frame.a = a;
            frame.b = b;
            frame.c = c;
            count++;
        }

        private void dropFramesOf(int station) {
            int kept = 0;
            for (int i = 0; i < count; i++) {
                Frame frame = frames[i];
                if (frame.from != station) {
                    frames[i] = frames[kept];
                    frames[kept] = frame;
                    kept++;
                }
            }
            count = kept;
        }

        /** The frame that this slot carries, or null. */
        private Frame useSlot() {
            if (count == 0) {
                return null;
            }
            if (disturbed > 0) {
                disturbed--;
                errors++;
                return null;
            }
            int first = 0;
            for (int i = 1; i < count; i++) {
                if (frames[i].id < frames[first].id) {
                    first = i;
                }
            }
            return takeOut(first);
        }

        private Frame takeOut(int at) {
            Frame taken = frames[at];
            count--;
            for (int i = at; i < count; i++) {
                frames[i] = frames[i + 1];
            }
            frames[count] = spare;
            spare = taken;
            return taken;
        }

        private int numberOfFrame(int i, int k) {
            return isWithin(i, 0, count - 1) ? frames[i].numberAt(k) : -1;
        }

        private int figure(int k) {
            switch (k) {
                case 0:
                    return count;
                case 1:
                    return lost;
                case 2:
                    return errors;
                case 3:
                    return now;
                default:
                    return -1;
            }
        }
    }

    private static final class Node {
        private final int number;
        private final int[] objects;
        private final StringBuilder name;
        private int state;
        private int latestBeat;
        private int latestSample;
        private boolean heldBack;
        private int syncs;
        private int heardAt;
        private boolean readsOut;
        private int position;
        private int toggle;

        private Node(int number) {
            this.number = number;
            objects = new int[OBJECTS];
            name = new StringBuilder();
            state = OFF;
            latestSample = NEVER;
            heardAt = NEVER;
            takeIdentity(1000 + number);
        }

        private boolean isOn() {
            return state != OFF;
        }

        private void takeIdentity(int id) {
            objects[IDENTITY] = id;
            name.setLength(0);
            name.append("NODE ").append(number).append(':').append(id);
        }

        private void reset(Wire wire) {
            for (int k = IDENTITY + 1; k < OBJECTS; k++) {
                objects[k] = 0;
            }
            state = PREPARED;
            latestSample = NEVER;
            heldBack = false;
            syncs = 0;
            heardAt = NEVER;
            readsOut = false;
            latestBeat = wire.now;
            wire.put(number, BEAT + number, 0, 0, 0);
        }

        private void switchOff(Wire wire) {
            state = OFF;
            wire.dropFramesOf(number);
        }

        private void takeInput(int i, int v, Wire wire) {
            boolean changed = objects[i] != v;
            objects[i] = v;
            if (changed && sendsOnChange() && mapNames(i)) {
                if (isPauseOver(wire.now)) {
                    send(wire);
                } else {
                    heldBack = true;
                }
            }
        }

        private boolean sendsOnChange() {
            return state == RUNNING && objects[TYPE] == 0;
        }

        private boolean mapNames(int i) {
            return objects[MAP] / 100 == i || objects[MAP] % 100 == i;
        }

        private boolean isPauseOver(int now) {
            return latestSample == NEVER || now - latestSample >= objects[PAUSE];
        }

        private void send(Wire wire) {
            int map = objects[MAP];
            int b = map == 0 ? 0 : valueOf(map / 100);
            int c = map == 0 ? 0 : valueOf(map % 100);
            wire.put(number, SAMPLE + number, 0, b, c);
            latestSample = wire.now;
            heldBack = false;
        }

        private void takeFailure(int code, Wire wire) {
            objects[ERROR] = code == 0 ? 0 : objects[ERROR] | FAILED;
            wire.put(number, EMERGENCY + number, code, 0, 0);
        }

        /** Object k, the length of the name for it, or -1. */
        private int valueOf(int k) {
            if (k == NAME) {
                return name.length();
            }
            return isWithin(k, 0, OBJECTS - 1) ? objects[k] : -1;
        }

        /** The node's own part of a tick. */
        private void live(Wire wire) {
            if (!isOn()) {
                return;
            }
            beatIfDue(wire);
            missWatched(wire);
            if (sendsOnChange() && heldBack && isPauseOver(wire.now)) {
                send(wire);
            }
        }

        private void beatIfDue(Wire wire) {
            if (objects[PERIOD] > 0 && wire.now - latestBeat >= objects[PERIOD]) {
                wire.put(number, BEAT + number, state, 0, 0);
                latestBeat = wire.now;
            }
        }

        private void missWatched(Wire wire) {
            if (objects[WATCH] == 0 || heardAt == NEVER || wire.now - heardAt < objects[WATCH] % 100) {
                return;
            }
            heardAt = NEVER;
            objects[ERROR] |= WATCHED_LOST;
            wire.put(number, EMERGENCY + number, 1, 0, 0);
            if (state == RUNNING) {
                state = PREPARED;
            }
        }

        private void hear(Frame frame, Wire wire) {
            if (!isOn()) {
                return;
            }
            if (frame.id == COMMAND) {
                obey(frame, wire);
            } else if (frame.id == SYNC) {
                countSync(wire);
            } else if (frame.id == REQUEST + number) {
                serve(frame, wire);
            } else if (isNode(frame.id - SAMPLE)) {
                takeSample(frame.id - SAMPLE, frame.b, frame.c);
            } else if (isNode(frame.id - BEAT)) {
                takeBeat(frame.id - BEAT, frame.a, wire.now);
            }
        }

        private void obey(Frame frame, Wire wire) {
            if (frame.b != 0 && frame.b != number) {
                return;
            }
            switch (frame.a) {
                case TO_RUN:
                    state = RUNNING;
                    break;
                case TO_STOP:
                    state = STOPPED;
                    break;
                case TO_PREPARE:
                    state = PREPARED;
                    break;
                case TO_RESET:
                    reset(wire);
                    break;
                default:
                    break;
            }
        }

        private void countSync(Wire wire) {
            if (state != RUNNING || objects[TYPE] == 0) {
                return;
            }
            syncs++;
            if (syncs >= objects[TYPE]) {
                send(wire);
                syncs = 0;
            }
        }

        private void takeSample(int from, int b, int c) {
            int source = objects[SOURCE];
            if (state == RUNNING && source / 10000 == from) {
                fillOutput(source / 100 % 100, b);
                fillOutput(source % 100, c);
            }
        }

        private void fillOutput(int k, int v) {
            if (isOutput(k)) {
                objects[k] = v;
            }
        }

        private void takeBeat(int from, int a, int now) {
            if (objects[WATCH] / 100 == from) {
                heardAt = a == 0 ? NEVER : now;
            }
        }

        private void serve(Frame request, Wire wire) {
            if (state == STOPPED) {
                return;
            }
            switch (request.a) {
                case WRITE:
                    int code = codeOfWrite(request.b, request.c);
                    if (code == DONE) {
                        store(request.b, request.c, wire.now);
                    }
                    answer(code == DONE ? WRITTEN : REFUSED, request.b, code, wire);
                    break;
                case READ:
                    serveRead(request.b, wire);
                    break;
                case READ_ON:
                    serveReadOn(request.b, wire);
                    break;
                default:
                    answer(REFUSED, request.b, NO_SUCH_REQUEST, wire);
                    break;
            }
        }

        private void answer(int a, int b, int c, Wire wire) {
            wire.put(number, ANSWER + number, a, b, c);
        }

        /** Only what codeOfWrite has let through comes here. */
        private void store(int k, int v, int now) {
            objects[k] = v;
            if (k == PERIOD) {
                latestBeat = now;
            } else if (k == WATCH) {
                heardAt = NEVER;
            } else if (k == TYPE) {
                syncs = 0;
            }
        }

        private int codeOfWrite(int k, int v) {
            if (!isWithin(k, 0, NAME)) {
                return NO_OBJECT;
            }
            if (!isWithin(k, PERIOD, SOURCE) && !isOutput(k)) {
                return NOT_WRITABLE;
            }
            if (!isValueFor(k, v)) {
                return BAD_VALUE;
            }
            boolean fixed = k == TYPE || k == MAP || k == SOURCE;
            return fixed && state == RUNNING ? NOT_WHILE_RUNNING : DONE;
        }

        private boolean isValueFor(int k, int v) {
            switch (k) {
                case PERIOD:
                    return isWithin(v, 0, HIGHEST_TIME);
                case WATCH:
                    return v == 0 || isOther(v / 100) && isWithin(v % 100, 1, HIGHEST_TIME);
                case TYPE:
                    return isWithin(v, 0, HIGHEST_TYPE);
                case PAUSE:
                    return isWithin(v, 0, HIGHEST_PAUSE);
                case MAP:
                    return v == 0 || isInput(v / 100) && isInput(v % 100);
                case SOURCE:
                    return v == 0 || isOther(v / 10000) && isOutput(v / 100 % 100) && isOutput(v % 100);
                default:
                    return true;
            }
        }

        private boolean isOther(int n) {
            return n >= 1 && n <= NODES && n != number;
        }

        private void serveRead(int k, Wire wire) {
            if (!isWithin(k, 0, NAME)) {
                answer(REFUSED, k, NO_OBJECT, wire);
            } else if (k == NAME) {
                readsOut = true;
                position = 0;
                toggle = 0;
                answer(LENGTH, NAME, name.length(), wire);
            } else {
                answer(VALUE, k, objects[k], wire);
            }
        }

        private void serveReadOn(int asked, Wire wire) {
            if (!readsOut || asked != toggle) {
                readsOut = false;
                answer(REFUSED, NAME, NOT_READ_OUT, wire);
                return;
            }
            int size = Math.min(PART_SIZE, name.length() - position);
            int part = 0;
            for (int i = 0; i < size; i++) {
                part |= name.charAt(position + i) << (8 * i);
            }
            answer(PART, toggle + 2 * size, part, wire);
            position += size;
            toggle = 1 - toggle;
            readsOut = position < name.length();
        }
    }

    /** What the master holds of one node. */
    private static final class Member {
        private static final int MOST_WRITES = 3;

        private int expected;
        private int time;
        private int phase;
        private int heardAt;
        private final int[] writeObjects;
        private final int[] writeValues;
        private int writes;
        /** How many writes of the list the boot that goes on has behind it. */
        private int written;

        private Member() {
            expected = NOT_EXPECTED;
            heardAt = NEVER;
            writeObjects = new int[MOST_WRITES];
            writeValues = new int[MOST_WRITES];
        }

        private boolean isExpected() {
            return expected != NOT_EXPECTED;
        }

        private void expectAnew(int id, int newTime) {
            expected = id;
            time = newTime;
            writes = 0;
        }

        private boolean addWrite(int k, int v) {
            if (!isExpected() || writes >= MOST_WRITES) {
                return false;
            }
            writeObjects[writes] = k;
            writeValues[writes] = v;
            writes++;
            return true;
        }

        private boolean isMissed(int now) {
            return time > 0 && heardAt != NEVER && now - heardAt >= time;
        }
    }

    /** The master's client: one transfer at a time. */
    private static final class Client {
        private static final int PATIENCE = 5;
        private static final int MOST_LETTERS = 12;

        private boolean busy;
        private boolean forBoot;
        private int node;
        private int asked;
        private boolean writes;
        private int until;
        private int code;
        private int result;
        private boolean hasLength;
        private int length;
        private int toggle;
        private final int[] letters;
        private int size;

        private Client() {
            letters = new int[MOST_LETTERS];
        }

        private void beginRead(int n, int k, Wire wire) {
            begin(n, k, false, wire);
            wire.put(MASTER, REQUEST + n, READ, k, 0);
        }

        private void beginWrite(int n, int k, int v, Wire wire) {
            begin(n, k, true, wire);
            wire.put(MASTER, REQUEST + n, WRITE, k, v);
        }

        private void begin(int n, int k, boolean write, Wire wire) {
            busy = true;
            node = n;
            asked = k;
            writes = write;
            hasLength = false;
            until = wire.now + PATIENCE;
        }

        private boolean isLate(int now) {
            return busy && now >= until;
        }

        private void end(int newCode, int newResult) {
            busy = false;
            code = newCode;
            result = newResult;
        }

        /** Whether this frame ended the transfer. */
        private boolean isEndedBy(Frame frame, Wire wire) {
            if (!busy || frame.id != ANSWER + node) {
                return false;
            }
            boolean isOfAsked = frame.b == asked;
            if (frame.a == REFUSED && isOfAsked) {
                end(frame.c, 0);
            } else if (frame.a == WRITTEN && isOfAsked && writes) {
                end(DONE, 0);
            } else if (frame.a == VALUE && isOfAsked && !writes) {
                end(DONE, frame.c);
            } else if (frame.a == LENGTH && isOfAsked && !writes) {
                beginText(frame.c, wire);
            } else if (frame.a == PART && hasLength && (frame.b & 1) == toggle) {
                takePart(frame.b, frame.c, wire);
            }
            return !busy;
        }

        private void beginText(int newLength, Wire wire) {
            size = 0;
            hasLength = true;
            length = newLength;
            toggle = 0;
            askOn(wire);
        }

        private void takePart(int b, int c, Wire wire) {
            int most = Math.min(PART_SIZE, (b >> 1) & 7);
            for (int i = 0; i < most && size < MOST_LETTERS; i++) {
                letters[size] = (c >> (8 * i)) & 255;
                size++;
            }
            if (size >= length || b < 2) {
                end(DONE, size);
            } else {
                toggle = 1 - toggle;
                askOn(wire);
            }
        }

        private void askOn(Wire wire) {
            wire.put(MASTER, REQUEST + node, READ_ON, toggle, 0);
            until = wire.now + PATIENCE;
        }

        private int letter(int i) {
            return isWithin(i, 0, size - 1) ? letters[i] : -1;
        }

        private int detail(int k) {
            switch (k) {
                case 0:
                    return busy ? 1 : 0;
                case 1:
                    return code;
                case 2:
                    return result;
                case 3:
                    return busy ? node : 0;
                case 4:
                    return busy ? asked : -1;
                default:
                    return -1;
            }
        }
    }

    private static final class Master {
        private static final int MOST_REPORTS = 80;

        private final Client client;
        /** By the node's number; there is none at 0. */
        private final Member[] members;
        private final int[] reports;
        private int reported;
        private int syncPeriod;

        private Master() {
            client = new Client();
            members = new Member[NODES + 1];
            for (int n = 1; n <= NODES; n++) {
                members[n] = new Member();
            }
            reports = new int[MOST_REPORTS];
        }

        private void beginForCaller(int n, int k, boolean write, int v, Wire wire) {
            client.forBoot = false;
            if (write) {
                client.beginWrite(n, k, v, wire);
            } else {
                client.beginRead(n, k, wire);
            }
        }

        private int reportAt(int i) {
            if (i == -1) {
                return reported;
            }
            return isWithin(i, 0, reported - 1) ? reports[i] : -2;
        }

        private void addReport(int kind, int n, int detail) {
            if (reported < MOST_REPORTS) {
                reports[reported] = 1000 * kind + 100 * n + detail;
                reported++;
            }
        }

        /** The master's own part of a tick. */
        private void live(Wire wire) {
            if (syncPeriod > 0 && wire.now % syncPeriod == 0) {
                wire.put(MASTER, SYNC, 0, 0, 0);
            }
            for (int n = 1; n <= NODES; n++) {
                if (members[n].isMissed(wire.now)) {
                    members[n].heardAt = NEVER;
                    addReport(REPORT_LOST, n, 0);
                }
            }
            if (client.isLate(wire.now)) {
                client.end(TOO_LATE, 0);
                goOnWithBoot(wire);
            }
            if (!client.busy) {
                beginBoot(wire);
            }
        }

        private void beginBoot(Wire wire) {
            for (int n = 1; n <= NODES; n++) {
                if (members[n].phase == PHASE_WAITS) {
                    members[n].phase = PHASE_IDENTIFIES;
                    client.forBoot = true;
                    client.beginRead(n, IDENTITY, wire);
                    return;
                }
            }
        }

        private void hear(Frame frame, Wire wire) {
            if (isNode(frame.id - EMERGENCY)) {
                addReport(REPORT_EMERGENCY, frame.id - EMERGENCY, frame.a & 63);
            } else if (isNode(frame.id - BEAT)) {
                hearBeat(frame.id - BEAT, frame.a, wire.now);
            } else if (client.isEndedBy(frame, wire)) {
                goOnWithBoot(wire);
            }
        }

        private void hearBeat(int n, int a, int now) {
            if (a != 0) {
                members[n].heardAt = now;
                return;
            }
            addReport(REPORT_APPEARED, n, 0);
            members[n].heardAt = NEVER;
            if (members[n].isExpected()) {
                if (client.forBoot && client.node == n) {
                    client.busy = false;
                }
                members[n].phase = PHASE_WAITS;
            }
        }

        /** To be called when a transfer is over, whosever it was. */
        private void goOnWithBoot(Wire wire) {
            if (!client.forBoot) {
                return;
            }
            Member member = members[client.node];
            if (client.code == TOO_LATE) {
                giveUp(PHASE_SILENT);
            } else if (client.code != DONE) {
                giveUp(PHASE_REFUSED);
            } else if (member.phase == PHASE_WRITES) {
                member.written++;
                writeNext(member, wire);
            } else if (client.result != member.expected) {
                giveUp(PHASE_OTHER_IDENTITY);
            } else {
                member.phase = PHASE_WRITES;
                member.written = 0;
                writeNext(member, wire);
            }
        }

        private void giveUp(int phase) {
            members[client.node].phase = phase;
            addReport(REPORT_NOT_BOOTED, client.node, phase);
        }

        private void writeNext(Member member, Wire wire) {
            int next = member.written;
            if (next < member.writes) {
                client.beginWrite(client.node, member.writeObjects[next], member.writeValues[next], wire);
                return;
            }
            member.phase = PHASE_BOOTED;
            wire.put(MASTER, COMMAND, TO_RUN, client.node, 0);
            addReport(REPORT_BOOTED, client.node, 0);
        }
    }
}
