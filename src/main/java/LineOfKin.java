/**
 * A house of devices whose acts come from interfaces, parents and grandparents: which bodies run
 * is chosen by what a device is, not by how it is reached; devices are linked, and pulses go
 * through the links.
 *
 * <p>The types and their bodies are kept as tables and numbers, not as Java types: the document has
 * more types than the language of this program allows classes.
 */
public final class LineOfKin {
    /** There is none. */
    public static final int NONE = -1;

    private static final int MOST_DEVICES = 300;
    private static final int MOST_LINKS = 400;

    private static final int DONE = 0;
    private static final int NO_SUCH_NUMBER = 1;
    private static final int WAY_NOT_BORNE = 2;
    private static final int ACT_NOT_OF_WAY = 3;
    private static final int NO_ROOM = 5;

    private final Bodies bodies;
    private final Device[] devices;
    /** The devices that have taken in the latest pulse, in the order in which they did. */
    private final Device[] took;

    private int deviceCount;
    private int linkCount;
    private int tookCount;
    /** The number of the latest pulse: a device that bears it has taken in that pulse. */
    private int pulse;
    private int latestStatus;

    /** A house without devices and links. */
    public LineOfKin() {
        bodies = new Bodies();
        devices = new Device[MOST_DEVICES];
        took = new Device[MOST_DEVICES];
    }

    /** Adds a device of a kind with a value; its number, or NONE. */
    public int device(int kind, int v) {
        if (!Kin.isKind(kind)) {
            latestStatus = NO_SUCH_NUMBER;
            return NONE;
        }
        if (deviceCount >= MOST_DEVICES) {
            latestStatus = NO_ROOM;
            return NONE;
        }
        devices[deviceCount] = new Device(kind, v);
        deviceCount++;
        latestStatus = DONE;
        return deviceCount - 1;
    }

    /** Calls an act of a device by a way; what it answers. */
    public int call(int d, int act, int way, int x) {
        Device called = find(d);
        latestStatus = refusal(called, act, way);
        if (called == null || latestStatus != DONE) {
            return 0;
        }
        bodies.forgetChain();
        return bodies.answer(called, act, x, 0);
    }

    /** Calls an act of every device that bears the way; the sum of what they answer. */
    public int every(int act, int way, int x) {
        latestStatus = refusalOfEvery(act, way);
        if (latestStatus != DONE) {
            return 0;
        }
        bodies.forgetChain();
        int sum = 0;
        for (int i = 0; i < deviceCount && i < MOST_DEVICES; i++) {
            Device each = devices[i];
            if (each != null && each.bears(way) && each.hasAct(act, way)) {
                sum += bodies.answer(each, act, x, 0);
            }
        }
        return sum;
    }

    /** Does the four calls that the bytes tell, the highest first; the sum of what was answered. */
    public int feed(int d, int bytes) {
        Device fed = find(d);
        if (fed == null) {
            latestStatus = NO_SUCH_NUMBER;
            return 0;
        }
        latestStatus = DONE;
        bodies.forgetChain();
        int sum = 0;
        for (int shift = 24; shift >= 0; shift -= 8) {
            sum += answerToByte(fed, (bytes >>> shift) & 255, sum);
        }
        return sum;
    }

    /** Adds a link from a to b; its number, or NONE. */
    public int link(int a, int b) {
        Device from = find(a);
        Device to = find(b);
        if (from == null || to == null) {
            latestStatus = NO_SUCH_NUMBER;
            return NONE;
        }
        if (linkCount >= MOST_LINKS) {
            latestStatus = NO_ROOM;
            return NONE;
        }
        from.addLinkTo(to);
        linkCount++;
        latestStatus = DONE;
        return linkCount - 1;
    }

    /** Sends a pulse from a device through the links; how many devices took. */
    public int pass(int d, int x) {
        Device first = find(d);
        if (first == null) {
            latestStatus = NO_SUCH_NUMBER;
            return 0;
        }
        latestStatus = DONE;
        bodies.forgetChain();
        pulse++;
        tookCount = 0;
        letTake(first, x);
        // handing on makes tookCount grow, up to each device once
        for (int i = 0; i < tookCount && i < MOST_DEVICES; i++) {
            handOn(took[i]);
        }
        return tookCount;
    }

    /** Whether a device bears a way: 1 or 0, or NONE. */
    public int able(int d, int way) {
        Device asked = find(d);
        if (asked == null || !Kin.isWay(way)) {
            return NONE;
        }
        return asked.bears(way) ? 1 : 0;
    }

    /** The number of a body of the chain, or NONE. */
    public int chain(int i) {
        return bodies.keptAt(i);
    }

    /** How many bodies of the chain ran in all. */
    public int ran() {
        return bodies.begun;
    }

    /** One of the numbers that a device has. */
    public int state(int d, int what) {
        Device asked = find(d);
        if (asked == null || !Device.isProperty(what)) {
            latestStatus = NO_SUCH_NUMBER;
            return 0;
        }
        latestStatus = DONE;
        return asked.property(what);
    }

    /** How many devices or links there are, or how many devices bear a way. */
    public int size(int what) {
        if (what == 0) {
            return deviceCount;
        }
        if (what == 1) {
            return linkCount;
        }
        return Kin.isWay(what) ? countBearersOf(what) : NONE;
    }

    /** The status of the latest call that has one. */
    public int status() {
        return latestStatus;
    }

    /** The device of a number, or null. */
    private Device find(int d) {
        if (d < 0 || d >= deviceCount || d >= MOST_DEVICES) {
            return null;
        }
        return devices[d];
    }

    private static int refusal(Device called, int act, int way) {
        if (called == null || !Kin.isAct(act) || !Kin.isWay(way)) {
            return NO_SUCH_NUMBER;
        }
        if (!called.bears(way)) {
            return WAY_NOT_BORNE;
        }
        return called.hasAct(act, way) ? DONE : ACT_NOT_OF_WAY;
    }

    private static int refusalOfEvery(int act, int way) {
        if (!Kin.isAct(act) || !Kin.isWay(way)) {
            return NO_SUCH_NUMBER;
        }
        // by the way of the kind, a device without the act is passed over, not refused
        if (way == Kin.BY_KIND || Kin.contains(Kin.actsOfWay(way), act)) {
            return DONE;
        }
        return ACT_NOT_OF_WAY;
    }

    private int answerToByte(Device fed, int told, int sum) {
        int act = told & 15;
        int way = (told >>> 4) & 7;
        int x = (told & 128) == 0 ? sum : 0 - sum;
        return refusal(fed, act, way) == DONE ? bodies.answer(fed, act, x, 0) : 0;
    }

    private void letTake(Device taker, int x) {
        if (tookCount >= MOST_DEVICES) {
            return;
        }
        took[tookCount] = taker;
        tookCount++;
        taker.pulse = pulse;
        taker.taken++;
        taker.answered = bodies.answer(taker, taker.actOfTaking(), x, 0);
    }

    private void handOn(Device giver) {
        if (giver == null) {
            return;
        }
        for (Link link = giver.firstLink; link != null; link = link.next) {
            Device taker = link.to;
            if (taker != null && taker.pulse != pulse) {
                letTake(taker, giver.answered);
            }
        }
    }

    private int countBearersOf(int way) {
        int bearers = 0;
        for (int i = 0; i < deviceCount && i < MOST_DEVICES; i++) {
            Device each = devices[i];
            if (each != null && each.bears(way)) {
                bearers++;
            }
        }
        return bearers;
    }

    /** A link, kept with the device that it goes from: where it goes to, and the one made next. */
    private static final class Link {
        private final Device to;
        private Link next;

        private Link(Device to) {
            this.to = to;
        }
    }

    /** A device: what it is of, what it holds, and the links that go from it. */
    private static final class Device {
        private final int kind;
        private final int ways;
        private final int actsOfKind;
        private int v;
        private int c;
        private int outgoing;
        private int incoming;
        private int taken;
        private int pulse;
        private int answered;
        private Link firstLink;
        private Link lastLink;

        private Device(int kind, int v) {
            this.kind = kind;
            this.v = v;
            ways = Kin.waysOf(kind);
            actsOfKind = Kin.actsOfWays(ways);
        }

        private boolean bears(int way) {
            return Kin.contains(ways, way);
        }

        private boolean hasAct(int act, int way) {
            return Kin.contains(way == Kin.BY_KIND ? actsOfKind : Kin.actsOfWay(way), act);
        }

        private int actOfTaking() {
            if (bears(Kin.BY_WRITES)) {
                return Kin.PUT;
            }
            return bears(Kin.BY_READS) ? Kin.PEEK : Kin.ADD;
        }

        private void addLinkTo(Device to) {
            Link added = new Link(to);
            if (lastLink == null) {
                firstLink = added;
            } else {
                lastLink.next = added;
            }
            lastLink = added;
            outgoing++;
            to.incoming++;
        }

        private static boolean isProperty(int what) {
            return what >= 0 && what <= 5;
        }

        private int property(int what) {
            switch (what) {
                case 0: return kind;
                case 1: return v;
                case 2: return c;
                case 3: return outgoing;
                case 4: return incoming;
                case 5: return taken;
                default: return 0;
            }
        }
    }

    /**
     * What the types are: which is above which, what they bear, and which bodies they have. A type
     * is a number: 0 to 10 are the kinds, then come UNIT, ROOT and the interfaces. An interface's
     * way is its type less FIRST_FACE, plus BY_READS.
     */
    private static final class Kin {
        private static final int READ = 0;
        private static final int PEEK = 1;
        private static final int GLANCE = 2;
        private static final int WRITE = 3;
        private static final int PUT = 4;
        private static final int COUNT = 5;
        private static final int ADD = 6;
        private static final int TALLY = 7;
        private static final int LOG = 8;
        private static final int TURN = 9;
        private static final int REST = 10;
        private static final int ACTS = 12;

        private static final int BY_KIND = 0;
        private static final int BY_READS = 2;
        private static final int BY_WRITES = 3;
        private static final int WAYS = 7;

        private static final int PUMP = 0;
        private static final int VALVE = 1;
        private static final int METER = 2;
        private static final int FINE = 3;
        private static final int RELAY = 4;
        private static final int TWIN = 5;
        private static final int MUTE = 6;
        private static final int BOOST = 8;
        private static final int LEDGER = 10;
        private static final int KINDS = 11;
        private static final int UNIT = 11;
        private static final int ROOT = 12;
        private static final int FIRST_FACE = 13;
        private static final int READS = 13;
        private static final int WRITES = 14;
        private static final int BOTH = 15;
        private static final int COUNTS = 16;
        private static final int LOGGED = 17;
        private static final int TYPES = 18;

        private static final int NO_BODY = 0;

        /** The parent of each class; the interfaces have none. */
        private static final int[] PARENT = {
            UNIT, UNIT, UNIT, PUMP, VALVE, METER, UNIT, METER, FINE, VALVE, RELAY,
            ROOT, NONE, NONE, NONE, NONE, NONE, NONE,
        };

        // sets of ways: the way of number w is 1 << w
        private static final int ALL_BEAR = 1 | 2;
        private static final int R = 4;
        private static final int W = 8;
        private static final int B = 16;
        private static final int C = 32;
        private static final int L = 64;

        /** The interfaces that each class names; of each interface, itself and those above it. */
        private static final int[] NAMED = {
            R, W, C, 0, R, B, L, L, 0, B, L | B,
            0, 0, R, W, B | R | W, C, L | C,
        };

        // acts as sets: the act of number a is 1 << a
        private static final int READING = 1 | 2 | 4;
        private static final int WRITING = 8 | 16 | 4;
        private static final int COUNTING = 32 | 64 | 128;
        private static final int LOGGING = COUNTING | 256;
        private static final int OF_UNIT = 8 | 32 | 512 | 1024 | 2048;

        /** The acts of each way; those of way 0 hang on the kind. */
        private static final int[] ACTS_OF_WAY = {
            0, OF_UNIT, READING, WRITING, READING | WRITING, COUNTING, LOGGING,
        };

        /** The number of the body that a type itself has of an act. */
        private static final int[] BODY = {
            // read, peek, glance, write, put, count, add, tally, log, turn, rest, sum
            100, 0, 0, 0, 0, 0, 0, 0, 0, 101, 0, 0, // PUMP
            0, 0, 0, 0, 111, 0, 0, 0, 0, 0, 110, 0, // VALVE
            0, 0, 0, 0, 0, 0, 120, 0, 0, 0, 0, 0, // METER
            130, 131, 0, 0, 0, 0, 0, 0, 0, 0, 0, 0, // FINE
            140, 0, 141, 0, 0, 0, 0, 0, 0, 0, 142, 0, // RELAY
            150, 0, 0, 0, 152, 0, 0, 0, 0, 151, 0, 0, // TWIN
            0, 0, 0, 0, 0, 160, 0, 0, 161, 163, 0, 0, // MUTE
            0, 0, 0, 0, 0, 0, 0, 0, 0, 0, 0, 0, // GAUGE
            0, 0, 181, 0, 0, 0, 0, 0, 0, 180, 0, 0, // BOOST
            190, 0, 0, 0, 0, 0, 0, 0, 0, 0, 0, 0, // SIPHON
            0, 0, 202, 0, 0, 204, 0, 201, 0, 0, 0, 0, // LEDGER
            0, 0, 0, 0, 0, 70, 0, 0, 0, 0, 0, 0, // UNIT
            0, 0, 0, 62, 0, 0, 0, 0, 0, 60, 61, 64, // ROOT
            0, 10, 11, 0, 0, 0, 0, 0, 0, 0, 0, 0, // READS
            0, 0, 21, 0, 20, 0, 0, 0, 0, 0, 0, 0, // WRITES
            0, 0, 30, 0, 0, 0, 0, 0, 0, 0, 0, 0, // BOTH
            0, 0, 0, 0, 0, 0, 40, 41, 0, 0, 0, 0, // COUNTS
            0, 0, 0, 0, 0, 0, 0, 50, 51, 0, 0, 0, // LOGGED
        };

        private static boolean isKind(int kind) {
            return kind >= 0 && kind < KINDS;
        }

        private static boolean isAct(int act) {
            return act >= 0 && act < ACTS;
        }

        private static boolean isWay(int way) {
            return way >= 0 && way < WAYS;
        }

        private static boolean isType(int type) {
            return type >= 0 && type < TYPES;
        }

        /** Whether a set of ways or of acts has a number, which is known to be from 0 to 30. */
        private static boolean contains(int set, int number) {
            return (set & (1 << number)) != 0;
        }

        private static int parentOf(int type) {
            return isType(type) ? PARENT[type] : NONE;
        }

        private static int namedBy(int type) {
            return isType(type) ? NAMED[type] : 0;
        }

        private static int actsOfWay(int way) {
            return isWay(way) ? ACTS_OF_WAY[way] : 0;
        }

        private static int bodyOf(int type, int act) {
            return isType(type) && isAct(act) ? BODY[type * ACTS + act] : NO_BODY;
        }

        private static int faceOfWay(int way) {
            return way - BY_READS + FIRST_FACE;
        }

        /** The interfaces that a type bears, as a set of ways. */
        private static int facesOf(int type) {
            int named = 0;
            int at = type;
            for (int step = 0; step < TYPES && at != NONE; step++) {
                named |= namedBy(at);
                at = parentOf(at);
            }
            int faces = named;
            for (int way = BY_READS; way < WAYS; way++) {
                if (contains(named, way)) {
                    faces |= namedBy(faceOfWay(way));
                }
            }
            return faces;
        }

        /** The ways that a kind bears. */
        private static int waysOf(int kind) {
            return ALL_BEAR | facesOf(kind);
        }

        /** All acts of a set of ways. */
        private static int actsOfWays(int ways) {
            int acts = 0;
            for (int way = 0; way < WAYS; way++) {
                if (contains(ways, way)) {
                    acts |= actsOfWay(way);
                }
            }
            return acts;
        }

        /**
         * The body selected for a device that would be of a type. Of an interface: its own body, or
         * that of the interfaces above it.
         */
        private static int selected(int type, int act) {
            int at = type;
            for (int step = 0; step < TYPES && at != NONE; step++) {
                int body = bodyOf(at, act);
                if (body != NO_BODY) {
                    return body;
                }
                at = parentOf(at);
            }
            int faces = facesOf(type);
            // an interface's number is above those of all that it is under: so the last with a
            // body is one under which no other is
            for (int way = WAYS - 1; way >= BY_READS; way--) {
                int body = contains(faces, way) ? bodyOf(faceOfWay(way), act) : NO_BODY;
                if (body != NO_BODY) {
                    return body;
                }
            }
            return NO_BODY;
        }
    }

    /** The bodies, and the chain of those that ran. */
    private static final class Bodies {
        private static final int MOST_KEPT = 64;
        /** Far above the depth that any act comes to. */
        private static final int DEEPEST = 40;

        private final int[] kept;
        /** The body selected of each type and act, worked out once. */
        private final int[] selections;
        private int begun;

        private Bodies() {
            kept = new int[MOST_KEPT];
            selections = new int[Kin.TYPES * Kin.ACTS];
            for (int place = 0; place < selections.length; place++) {
                selections[place] = Kin.selected(place / Kin.ACTS, place % Kin.ACTS);
            }
        }

        private void forgetChain() {
            begun = 0;
        }

        private int keptAt(int i) {
            return i >= 0 && i < begun && i < MOST_KEPT ? kept[i] : NONE;
        }

        private int selected(int type, int act) {
            if (type < 0 || type >= Kin.TYPES || act < 0 || act >= Kin.ACTS) {
                return Kin.NO_BODY;
            }
            return selections[type * Kin.ACTS + act];
        }

        /** What a device answers to an act, by the body that is selected for it. */
        private int answer(Device d, int act, int x, int depth) {
            return run(d, selected(d.kind, act), x, depth);
        }

        /** An act as a body of a class names it with super. */
        private int above(int type, Device d, int act, int x, int depth) {
            return run(d, selected(Kin.parentOf(type), act), x, depth);
        }

        /** An act as a body names it with an interface and super. */
        private int by(int face, Device d, int act, int x, int depth) {
            return run(d, selected(face, act), x, depth);
        }

        /** Runs a body of a number; an own body is named by its number, as no type can change it. */
        private int run(Device d, int body, int x, int depth) {
            if (body == Kin.NO_BODY || depth > DEEPEST) {
                return 0;
            }
            begin(body);
            if (body < 60) {
                return runOfInterface(d, body, x, depth + 1);
            }
            if (body < 100) {
                return runOfRootOrUnit(d, body, x, depth + 1);
            }
            if (body < 140) {
                return runOfPumpToFine(d, body, x, depth + 1);
            }
            return body < 180
                    ? runOfRelayToMute(d, body, x, depth + 1)
                    : runOfBoostToLedger(d, body, x, depth + 1);
        }

        private void begin(int body) {
            if (begun >= 0 && begun < MOST_KEPT) {
                kept[begun] = body;
            }
            begun++;
        }

        private int runOfInterface(Device d, int body, int x, int n) {
            switch (body) {
                case 10:
                    return answer(d, Kin.READ, x, n) + 1;
                case 11:
                    return answer(d, Kin.PEEK, x, n) * 3 - answer(d, Kin.READ, x + 1, n);
                case 20:
                    return answer(d, Kin.WRITE, x, n) + answer(d, Kin.WRITE, x + 1, n);
                case 21:
                    return answer(d, Kin.PUT, x, n) ^ 85;
                case 30:
                    return by(Kin.READS, d, Kin.GLANCE, x, n)
                            + by(Kin.WRITES, d, Kin.GLANCE, x + 1, n);
                case 40:
                    return answer(d, Kin.COUNT, x, n) + x;
                case 41:
                    return answer(d, Kin.ADD, x, n) * 2 + answer(d, Kin.ADD, 1, n);
                case 50:
                    return by(Kin.COUNTS, d, Kin.TALLY, x, n) - answer(d, Kin.LOG, x, n);
                case 51:
                    return run(d, 52, x, n) + answer(d, Kin.COUNT, 2, n);
                case 52:
                    return answer(d, Kin.COUNT, x, n) * 5;
                default:
                    return 0;
            }
        }

        private int runOfRootOrUnit(Device d, int body, int x, int n) {
            switch (body) {
                case 60:
                    d.v += x;
                    return d.v;
                case 61:
                    d.v -= 3 * x;
                    return d.v;
                case 62:
                    d.v = d.v * 31 + x;
                    return d.v;
                case 63:
                    return d.v ^ x;
                case 64:
                    return answer(d, Kin.TURN, x, n) + answer(d, Kin.REST, 1, n) + run(d, 63, x, n);
                case 70:
                    d.c++;
                    return d.c * 7 + x;
                default:
                    return 0;
            }
        }

        private int runOfPumpToFine(Device d, int body, int x, int n) {
            switch (body) {
                case 100:
                    return d.v + x;
                case 101:
                    return above(Kin.PUMP, d, Kin.TURN, x + 2, n) + 1;
                case 110:
                    return above(Kin.VALVE, d, Kin.REST, x, n) * 2 + run(d, 112, x, n);
                case 111:
                    return by(Kin.WRITES, d, Kin.PUT, x, n) - 1;
                case 112:
                    return d.c - x;
                case 120:
                    return answer(d, Kin.COUNT, x, n) * 3 + d.v;
                case 130:
                    return above(Kin.FINE, d, Kin.READ, x, n) * 3;
                case 131:
                    return above(Kin.FINE, d, Kin.PEEK, x + 1, n) + 5;
                default:
                    return 0;
            }
        }

        private int runOfRelayToMute(Device d, int body, int x, int n) {
            switch (body) {
                case 140:
                    return d.v - x;
                case 141:
                    return above(Kin.RELAY, d, Kin.GLANCE, x, n)
                            - by(Kin.READS, d, Kin.GLANCE, 1, n);
                case 142:
                    return above(Kin.RELAY, d, Kin.REST, x + 1, n) + 4;
                case 150:
                    return answer(d, Kin.COUNT, x, n) + d.v;
                case 151:
                    return above(Kin.TWIN, d, Kin.TURN, x, n) ^ answer(d, Kin.GLANCE, 0, n);
                case 152:
                    return by(Kin.BOTH, d, Kin.PUT, x, n) + 1;
                case 160:
                    return x;
                case 161:
                    return by(Kin.LOGGED, d, Kin.LOG, x, n) & 255;
                case 162:
                    return x + 99;
                case 163:
                    return run(d, 162, x, n) + above(Kin.MUTE, d, Kin.TURN, 1, n);
                default:
                    return 0;
            }
        }

        private int runOfBoostToLedger(Device d, int body, int x, int n) {
            switch (body) {
                case 180:
                    return above(Kin.BOOST, d, Kin.TURN, x, n) - 1;
                case 181:
                    return above(Kin.BOOST, d, Kin.GLANCE, x, n) + answer(d, Kin.PEEK, 2, n);
                case 190:
                    return answer(d, Kin.REST, x, n) * 2;
                case 200:
                    return d.c + x;
                case 201:
                    return by(Kin.LOGGED, d, Kin.TALLY, x, n) + run(d, 200, x, n);
                case 202:
                    return by(Kin.BOTH, d, Kin.GLANCE, x, n)
                            + above(Kin.LEDGER, d, Kin.GLANCE, x, n);
                case 204:
                    return above(Kin.LEDGER, d, Kin.COUNT, x, n) + 1;
                default:
                    return 0;
            }
        }
    }
}
