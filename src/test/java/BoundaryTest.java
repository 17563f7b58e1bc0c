/**
 * The boundaries that the document names, each sentence with a test of its own: what is empty,
 * numbers too small and too large beside those that are just right, links and pulses that come back,
 * and the STATUS. (What is full: FullTest. Refused calls: RefusalTest. Numbers that wrap: WrapTest.)
 */
public final class BoundaryTest {
    private static final int NONE = -1;
    private static final int MAX = Integer.MAX_VALUE;
    private static final int MIN = Integer.MIN_VALUE;
    private static final int READ = 0;
    private static final int PEEK = 1;
    private static final int PUT = 4;
    private static final int COUNT = 5;
    private static final int ADD = 6;
    private static final int LOG = 8;
    private static final int TURN = 9;
    private static final int SUM = 11;
    private static final int PUMP = 0;
    private static final int VALVE = 1;
    private static final int METER = 2;
    private static final int RELAY = 4;
    private static final int MUTE = 6;
    private static final int GAUGE = 7;
    private static final int LEDGER = 10;
    private static final int[] FAR = {MIN, MIN + 1, -65536, -32, -2, -1, 300, 400, 65536, MAX - 1, MAX};

    /** The ways that each KIND BEARS, written out from the document's list. */
    private static final String[] BORNE = {"012", "013", "015", "012", "0123", "012345", "0156",
        "0156", "012", "01234", "0123456"};
    /** The acts of ways 1 to 6, a letter each from a on. */
    private static final String[] ACTS_OF_WAY = {"", "dfjkl", "abc", "dec", "abcde", "fgh", "fghi"};

    private static int wrong = 0;

    private static void due(String what, long got, long want) {
        if (got != want) {
            wrong++;
            if (wrong <= 100) {
                System.out.println(what + " answered " + got + ", due is " + want);
            }
        }
    }

    private static void dueStatus(String what, LineOfKin house, int want) {
        due("status() after " + what, house.status(), want);
    }

    /** The whole chain, and nothing before and behind it. */
    private static void dueChain(String what, LineOfKin house, int... bodies) {
        due("ran() after " + what, house.ran(), bodies.length);
        for (int i = 0; i < bodies.length; i++) {
            due("chain(" + i + ") after " + what, house.chain(i), bodies[i]);
        }
        due("chain(-1) after " + what, house.chain(-1), NONE);
        due("chain(" + bodies.length + ") after " + what, house.chain(bodies.length), NONE);
        due("chain(63) after " + what, house.chain(63), NONE);
    }

    private static LineOfKin houseOf(int... kinds) {
        LineOfKin house = new LineOfKin();
        for (int kind : kinds) {
            house.device(kind, 0);
        }
        return house;
    }

    private static LineOfKin houseOfMany(int many, int kind) {
        LineOfKin house = new LineOfKin();
        for (int i = 0; i < many; i++) {
            house.device(kind, 0);
        }
        return house;
    }

    private static boolean bears(int kind, int way) {
        return BORNE[kind].indexOf('0' + way) >= 0;
    }

    private static boolean hasAct(int kind, int way, int act) {
        if (way != 0) {
            return ACTS_OF_WAY[way].indexOf('a' + act) >= 0;
        }
        for (int other = 1; other <= 6; other++) {
            if (bears(kind, other) && hasAct(kind, other, act)) {
                return true;
            }
        }
        return false;
    }

    // ---- empty: an object on which nothing has been done

    /** "No devices, no links"; "0 at first"; "Without one: none ran." */
    private static void newObject() {
        LineOfKin house = new LineOfKin();
        dueStatus("making", house, 0);
        dueChain("making", house);
        for (int what = 0; what <= 6; what++) {
            due("size(" + what + ") of a new object", house.size(what), 0);
        }
        for (int i : FAR) {
            due("chain(" + i + ") of a new object", house.chain(i), NONE);
            due("able(" + i + ", 0) of a new object", house.able(i, 0), NONE);
        }
        due("able(0, 0) of a new object", house.able(0, 0), NONE);
        due("able(0, 7) of a new object", house.able(0, 7), NONE);
        dueStatus("questions", house, 0);
    }

    /** Each call as the first one on an object. */
    private static void firstCalls() {
        LineOfKin house = new LineOfKin();
        due("first call", house.call(0, READ, 0, 1), 0);
        dueStatus("first call", house, 1);
        house = new LineOfKin();
        due("first feed", house.feed(0, 0), 0);
        dueStatus("first feed", house, 1);
        house = new LineOfKin();
        due("first link", house.link(0, 0), NONE);
        dueStatus("first link", house, 1);
        due("size(1) after it", house.size(1), 0);
        house = new LineOfKin();
        due("first pass", house.pass(0, 1), 0);
        dueStatus("first pass", house, 1);
        house = new LineOfKin();
        due("first state", house.state(0, 0), 0);
        dueStatus("first state", house, 1);
        house = new LineOfKin();
        due("first device", house.device(METER, 1), 0);
        dueStatus("first device", house, 0);
        dueChain("first device", house);
    }

    /** An act of each device that BEARS the way: there is none, and it was done. */
    private static void everyWithoutDevices() {
        for (int way = 0; way <= 6; way++) {
            for (int act = 0; act <= 11; act++) {
                LineOfKin house = new LineOfKin();
                boolean refused = way != 0 && !hasAct(LEDGER, way, act);
                String what = "every(" + act + ", " + way + ", 1) without devices";
                due(what, house.every(act, way, 1), 0);
                dueStatus(what, house, refused ? 3 : 0);
                dueChain(what, house);
            }
        }
    }

    private static void objectsApart() {
        LineOfKin one = houseOf(PUMP, PUMP);
        one.link(0, 1);
        one.call(0, READ, 2, 0);
        one.call(0, PUT, 3, 0);
        LineOfKin other = new LineOfKin();
        due("size(0) of another object", other.size(0), 0);
        due("size(1) of another object", other.size(1), 0);
        dueStatus("nothing on another object", other, 0);
        dueChain("nothing on another object", other);
    }

    // ---- empty: no link, no chain kept

    private static void deviceWithoutLinks() {
        LineOfKin house = houseOf(PUMP, METER);
        due("links from", house.state(0, 3), 0);
        due("links to", house.state(0, 4), 0);
        due("taken before a pulse", house.state(0, 5), 0);
        due("pass without links", house.pass(1, 3), 1);
        dueChain("pass without links", house, 120, 70);
        due("taken by who is not linked", house.state(0, 5), 0);
        due("taken by the only one", house.state(1, 5), 1);
    }

    /** What is done and runs no body leaves a chain of none; what is refused leaves the chain. */
    private static void chainOfNone() {
        LineOfKin house = houseOf(PUMP, RELAY);
        due("call", house.call(1, PEEK, 2, 1), 0);
        dueChain("call", house, 10, 140);
        house.every(READ, 1, 1);
        dueChain("a refused every", house, 10, 140);
        due("every by COUNTS without one", house.every(COUNT, 5, 1), 0);
        dueStatus("every by COUNTS without one", house, 0);
        dueChain("every by COUNTS without one", house);
        house.call(0, READ, 2, 1);
        dueChain("call", house, 100);
        due("every by the KIND without one", house.every(LOG, 0, 1), 0);
        dueStatus("every by the KIND without one", house, 0);
        dueChain("every by the KIND without one", house);
        house.call(0, READ, 2, 1);
        due("feed of four left out", house.feed(0, 0x7F0C3524), 0);
        dueStatus("feed of four left out", house, 0);
        dueChain("feed of four left out", house);
    }

    /** Only call, every, feed and pass make a chain. */
    private static void chainIsKept() {
        LineOfKin house = houseOf(PUMP);
        house.call(0, PEEK, 2, 1);
        house.device(VALVE, 1);
        dueChain("device", house, 10, 100);
        house.link(0, 1);
        dueChain("link", house, 10, 100);
        house.state(0, 1);
        dueChain("state", house, 10, 100);
        house.able(0, 1);
        house.size(0);
        house.status();
        dueChain("questions", house, 10, 100);
        house.pass(1, 1);
        dueChain("pass", house, 111, 20, 62, 62);
        house.feed(0, 0x0005FFFF);
        dueChain("feed", house, 100, 70);
        house.every(TURN, 1, 0);
        dueChain("every", house, 101, 60, 60);
    }

    // ---- numbers: too small, the smallest, the largest, too large

    /** A device's numbers are "from 0 on". */
    private static void numbersOfDevices() {
        for (int many : new int[] {1, 2, 5}) {
            for (int d : new int[] {MIN, -1, 0, many - 1, many, many + 1, 299, 300, MAX}) {
                boolean there = d >= 0 && d < many;
                int status = there ? 0 : 1;
                String what = "device " + d + " of " + many;
                LineOfKin house = houseOfMany(many, METER);
                due("able of " + what, house.able(d, 5), there ? 1 : NONE);
                due("call of " + what, house.call(d, COUNT, 5, 1), there ? 8 : 0);
                dueStatus("call of " + what, house, status);
                due("feed of " + what, house.feed(d, 0x55FFFFFF), there ? 14 : 0);
                dueStatus("feed of " + what, house, status);
                due("pass from " + what, house.pass(d, 1), there ? 1 : 0);
                dueStatus("pass from " + what, house, status);
                due("link from " + what, house.link(d, 0), there ? 0 : NONE);
                dueStatus("link from " + what, house, status);
                due("link to " + what, house.link(0, d), there ? 1 : NONE);
                dueStatus("link to " + what, house, status);
                due("state of " + what, house.state(d, 2), there ? 3 : 0);
                dueStatus("state of " + what, house, status);
            }
        }
    }

    private static void numbersOfKinds() {
        for (int kind : new int[] {MIN, -11, -1, 0, 10, 11, 12, 32, 300, MAX}) {
            boolean there = kind >= 0 && kind <= 10;
            LineOfKin house = new LineOfKin();
            due("device(" + kind + ", 5)", house.device(kind, 5), there ? 0 : NONE);
            dueStatus("device(" + kind + ", 5)", house, there ? 0 : 1);
            due("size(0) after device(" + kind + ", 5)", house.size(0), there ? 1 : 0);
            due("device(0, 6) after it", house.device(PUMP, 6), there ? 1 : 0);
            due("its value", house.state(there ? 1 : 0, 1), 6);
        }
    }

    /** Each act of each KIND by each way, with the STATUS that is due of it. */
    private static void everyNumberOfACall() {
        for (int kind = 0; kind <= 10; kind++) {
            for (int way = -1; way <= 7; way++) {
                for (int act = -1; act <= 12; act++) {
                    int status = 0;
                    if (way < 0 || way > 6 || act < 0 || act > 11) {
                        status = 1;
                    } else if (!bears(kind, way)) {
                        status = 2;
                    } else if (!hasAct(kind, way, act)) {
                        status = 3;
                    }
                    LineOfKin house = houseOf(kind);
                    String what = "call of " + kind + " (0, " + act + ", " + way + ", 1)";
                    int answer = house.call(0, act, way, 1);
                    dueStatus(what, house, status);
                    due("whether a body ran in " + what, house.ran() > 0 ? 1 : 0, status == 0 ? 1 : 0);
                    due("what a refused one answers", status == 0 ? 0 : answer, 0);
                }
            }
        }
    }

    private static void numbersOfActs() {
        LineOfKin house = houseOf(LEDGER);
        due("call of act 0", house.call(0, READ, 0, 5), -5);
        dueStatus("call of act 0", house, 0);
        // turn(0) is 0, rest(1) is 142 with v -6: (-6) * 2 + (0 - 2) + 4, own(0) is -6
        due("call of act 11", house.call(0, SUM, 0, 0), -10 - 6);
        dueStatus("call of act 11", house, 0);
        for (int act : new int[] {MIN, -32, -21, -1, 12, 13, 15, 32, 41, 64, MAX}) {
            for (int way = 0; way <= 6; way++) {
                due("call of act " + act, house.call(0, act, way, 5), 0);
                dueStatus("call of act " + act + " by way " + way, house, 1);
                due("every of act " + act, house.every(act, way, 5), 0);
                dueStatus("every of act " + act + " by way " + way, house, 1);
            }
        }
        due("v in the end", house.state(0, 1), -6);
    }

    private static void numbersOfWays() {
        LineOfKin house = houseOf(LEDGER);
        for (int way = 0; way <= 6; way++) {
            due("able(0, " + way + ")", house.able(0, way), 1);
        }
        due("call by way 0", house.call(0, LOG, 0, 0), 40 + 17);
        due("call by way 6", house.call(0, LOG, 6, 0), 22 * 5 + 31);
        for (int way : new int[] {MIN, -32, -26, -1, 7, 8, 32, 34, 38, 64, MAX}) {
            house = houseOf(LEDGER);
            due("able(0, " + way + ")", house.able(0, way), NONE);
            for (int act = 0; act <= 11; act++) {
                due("call by way " + way, house.call(0, act, way, 5), 0);
                dueStatus("call of act " + act + " by way " + way, house, 1);
                due("every by way " + way, house.every(act, way, 5), 0);
                dueStatus("every of act " + act + " by way " + way, house, 1);
            }
            due("v after way " + way, house.state(0, 1), 0);
            due("c after way " + way, house.state(0, 2), 0);
        }
    }

    /** Of state, what is from 0 to 5; of size, from 0 to 6, "NONE for another what". */
    private static void numbersOfWhat() {
        LineOfKin house = houseOf(MUTE, LEDGER);
        house.device(LEDGER, MIN);
        house.link(2, 1);
        house.link(2, 1);
        house.pass(2, 0);
        int[] states = {LEDGER, 0, 0, 2, 0, 1};
        for (int what : new int[] {MIN, -32, -1, 0, 1, 2, 3, 4, 5, 6, 7, 32, MAX}) {
            boolean there = what >= 0 && what <= 5;
            if (what == 1) {
                // put(0): MIN * 31, then * 31 + 1
                due("state(2, 1)", house.state(2, 1), MIN + 1);
            } else {
                due("state(2, " + what + ")", house.state(2, what), there ? states[what] : 0);
            }
            dueStatus("state(2, " + what + ")", house, there ? 0 : 1);
        }
        int[] sizes = {3, 2, 2, 2, 2, 3, 3};
        for (int what : new int[] {MIN, -32, -1, 0, 1, 2, 3, 4, 5, 6, 7, 32, 34, MAX}) {
            boolean there = what >= 0 && what <= 6;
            due("size(" + what + ")", house.size(what), there ? sizes[what] : NONE);
        }
    }

    /** A VALUE and an x may be any number of 32 bits. */
    private static void smallestAndLargestX() {
        LineOfKin house = new LineOfKin();
        due("device of MIN", house.device(VALVE, MIN), 0);
        due("device of MAX", house.device(VALVE, MAX), 1);
        dueStatus("device of MAX", house, 0);
        due("state of MIN", house.state(0, 1), MIN);
        due("state of MAX", house.state(1, 1), MAX);
        due("turn of MAX", house.call(0, TURN, 1, MAX), -1);
        due("turn of MIN", house.call(1, TURN, 0, MIN), -1);
        due("every turn of MIN", house.every(TURN, 1, MIN), -2);
        due("v after it", house.state(0, 1), MAX);
        due("every turn of MAX", house.every(TURN, 0, MAX), -4);
        due("pass of MAX", house.pass(0, MAX), 1);
        // -2 * 31 + MAX, then that * 31 + MIN
        due("v after pass of MAX", house.state(0, 1), -1953);
        due("pass of MIN", house.pass(1, MIN), 1);
        due("v after pass of MIN", house.state(1, 1), -62 * 31 + 1);
    }

    /** "bits 0 to 3 are the act, bits 4 to 6 the way", of each byte, "the highest first". */
    private static void bytesOfFeed() {
        for (int act = 0; act <= 15; act++) {
            for (int way = 0; way <= 7; way++) {
                boolean does = act <= 11 && way <= 6 && hasAct(LEDGER, way, act);
                for (int shift = 0; shift <= 24; shift += 8) {
                    // the others are of no act and no way
                    int bytes = -1 ^ (255 << shift) | (way * 16 + act) << shift;
                    LineOfKin fed = houseOf(LEDGER);
                    LineOfKin called = houseOf(LEDGER);
                    String what = "feed of act " + act + " by way " + way + " at " + shift;
                    due(what, fed.feed(0, bytes), does ? called.call(0, act, way, 0) : 0);
                    dueStatus(what, fed, 0);
                    due("ran() of " + what, fed.ran(), called.ran());
                }
            }
        }
    }

    /** "its x is the sum of what was answered so far (0 at first), with bit 7 .. 0 less it". */
    private static void sumsOfFeed() {
        LineOfKin house = new LineOfKin();
        house.device(PUMP, 100);
        // read(0), read(100), read(300), read(700)
        due("feed of 20202020", house.feed(0, 0x20202020), 100 + 200 + 400 + 800);
        // read(0), read(-100), read(-100), read(-100)
        due("feed of A0A0A0A0", house.feed(0, 0xA0A0A0A0), 100);
        // read(0), read(-100), read(100), read(-300)
        due("feed of 20A020A0", house.feed(0, 0x20A020A0), 100 + 0 + 200 - 200);
        // left out, read(0), left out, read(-100)
        due("feed of 3520FFA0", house.feed(0, 0x3520FFA0), 100);
        dueChain("feed of 3520FFA0", house, 100, 100);
        due("feed of 0", house.feed(0, 0), 1500);
        due("feed of MAX", house.feed(0, MAX), 0);
        dueChain("feed of MAX", house);
        // way 0, act 0, three times behind a byte of bit 7 alone
        due("feed of MIN", house.feed(0, MIN), 100 + 200 + 400 + 800);
        due("feed of -1", house.feed(0, -1), 0);
        dueStatus("feed of -1", house, 0);
    }

    // ---- LINKS: "perhaps the same, perhaps several times"

    private static void linkToTheSame() {
        LineOfKin house = houseOf(MUTE);
        due("link(0, 0)", house.link(0, 0), 0);
        dueStatus("link(0, 0)", house, 0);
        due("link(0, 0) again", house.link(0, 0), 1);
        due("links from", house.state(0, 3), 2);
        due("links to", house.state(0, 4), 2);
        due("pass", house.pass(0, 5), 1);
        dueChain("pass", house, 40, 160);
        due("taken", house.state(0, 5), 1);
    }

    private static void linkSeveralTimes() {
        LineOfKin house = houseOf(MUTE, GAUGE);
        for (int i = 0; i < 5; i++) {
            due("link(0, 1)", house.link(0, 1), i);
        }
        due("link(1, 0)", house.link(1, 0), 5);
        due("links from 0", house.state(0, 3), 5);
        due("links to 0", house.state(0, 4), 1);
        due("links from 1", house.state(1, 3), 1);
        due("links to 1", house.state(1, 4), 5);
        due("size(1)", house.size(1), 6);
        due("pass", house.pass(0, 5), 2);
        dueChain("pass", house, 40, 160, 120, 70);
        due("taken by 1", house.state(1, 5), 1);
        due("pass back", house.pass(1, 5), 2);
        due("taken by 1", house.state(1, 5), 2);
    }

    // ---- a pulse

    /** Takers go through their links in the order in which they took, each with its own answer. */
    private static void orderOfPulse() {
        LineOfKin house = new LineOfKin();
        int[] values = {1, 10, 100, 1000, 10000};
        for (int v : values) {
            house.device(PUMP, v);
        }
        house.device(VALVE, 0);
        house.device(VALVE, 0);
        house.link(2, 5);
        house.link(0, 1);
        house.link(0, 2);
        house.link(1, 3);
        house.link(3, 6);
        house.link(2, 4);
        house.link(4, 6);
        house.link(4, 0);
        due("pass", house.pass(0, 0), 7);
        // 2; 2 + 11 and 2 + 101; 13 + 1001 by the one; put(103), then 103 + 10001 by the other
        due("v of the one", house.state(5, 1), 103 * 31 + 104);
        // device 3 took before device 4
        due("v of the other", house.state(6, 1), 1014 * 31 + 1015);
        // the bodies of 0, 1, 2, 3, 5, 4, 6
        dueChain("pass", house, 10, 100, 10, 100, 10, 100, 10, 100, 111, 20, 62, 62, 10, 100,
                111, 20, 62, 62);
        for (int d = 0; d < 7; d++) {
            due("taken by " + d, house.state(d, 5), 1);
        }
    }

    /** "has not taken in this pulse": what took in an earlier one takes again. */
    private static void pulseAfterPulse() {
        LineOfKin house = houseOf(MUTE, MUTE, MUTE);
        house.link(0, 1);
        house.link(1, 2);
        house.link(2, 0);
        for (int i = 1; i <= 3; i++) {
            due("pass " + i, house.pass(i % 3, 1), 3);
            for (int d = 0; d < 3; d++) {
                due("taken by " + d, house.state(d, 5), i);
            }
        }
        house.pass(3, 1);
        due("taken after a refused pulse", house.state(0, 5), 3);
        house.device(MUTE, 0);
        house.link(2, 3);
        due("pass with a new one", house.pass(0, 1), 4);
        due("taken by the new one", house.state(3, 5), 1);
    }

    /** put, peek and add are TAKEN in a pulse alone. */
    private static void takenByPulsesAlone() {
        LineOfKin house = houseOf(VALVE, PUMP, METER);
        house.call(0, PUT, 3, 1);
        house.call(1, PEEK, 2, 1);
        house.every(ADD, 5, 1);
        house.feed(2, 0x56565656);
        for (int d = 0; d < 3; d++) {
            due("taken by " + d, house.state(d, 5), 0);
        }
    }

    // ---- STATUS

    private static void leave(LineOfKin house, int status) {
        switch (status) {
            case 1: house.state(0, 6); break;
            case 2: house.call(0, COUNT, 5, 0); break;
            case 3: house.call(0, TURN, 2, 0); break;
            default: house.link(0, 0); break;
        }
        dueStatus("what is refused", house, status);
    }

    /** "0 it was done", whatever was before it. */
    private static void statusOfWhatIsDone() {
        LineOfKin house = houseOf(PUMP);
        for (int i = 0; i < 400; i++) {
            house.link(0, 0);
        }
        for (int status : new int[] {1, 2, 3, 5}) {
            leave(house, status);
            house.device(PUMP, 0);
            dueStatus("device after " + status, house, 0);
            leave(house, status);
            house.call(0, READ, 2, 0);
            dueStatus("call after " + status, house, 0);
            leave(house, status);
            house.every(COUNT, 5, 0);
            dueStatus("every after " + status, house, 0);
            leave(house, status);
            house.feed(0, -1);
            dueStatus("feed after " + status, house, 0);
            leave(house, status);
            house.pass(0, 0);
            dueStatus("pass after " + status, house, 0);
            leave(house, status);
            house.state(0, 5);
            dueStatus("state after " + status, house, 0);
        }
        house = houseOf(PUMP);
        for (int status = 1; status <= 3; status++) {
            leave(house, status);
            house.link(0, 0);
            dueStatus("link after " + status, house, 0);
        }
    }

    /** able, chain, ran, size and status leave the STATUS. */
    private static void statusOfQuestions() {
        LineOfKin house = houseOf(PUMP);
        for (int i = 0; i < 400; i++) {
            house.link(0, 0);
        }
        for (int status : new int[] {1, 2, 3, 5}) {
            leave(house, status);
            house.able(0, 0);
            house.able(0, 3);
            house.able(1, 0);
            house.able(0, 7);
            dueStatus("able after " + status, house, status);
            house.chain(0);
            house.chain(-1);
            house.chain(64);
            dueStatus("chain after " + status, house, status);
            house.size(0);
            house.size(7);
            house.size(-1);
            dueStatus("size after " + status, house, status);
            house.ran();
            dueStatus("ran after " + status, house, status);
        }
        house.state(0, 0);
        house.able(1, 7);
        house.chain(-1);
        house.size(7);
        dueStatus("questions after 0", house, 0);
    }

    public static void main(String[] args) {
        newObject();
        firstCalls();
        everyWithoutDevices();
        objectsApart();
        deviceWithoutLinks();
        chainOfNone();
        chainIsKept();
        numbersOfDevices();
        numbersOfKinds();
        everyNumberOfACall();
        numbersOfActs();
        numbersOfWays();
        numbersOfWhat();
        smallestAndLargestX();
        bytesOfFeed();
        sumsOfFeed();
        linkToTheSame();
        linkSeveralTimes();
        orderOfPulse();
        pulseAfterPulse();
        takenByPulsesAlone();
        statusOfWhatIsDone();
        statusOfQuestions();
        System.out.println(wrong == 0 ? "all answers are as due" : wrong + " answers are not as due");
        if (wrong != 0) {
            System.exit(1);
        }
    }
}
