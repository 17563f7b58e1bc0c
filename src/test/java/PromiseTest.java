/** Each promise of the document, with answers worked out by hand from its words. */
public final class PromiseTest {
    private static final int NONE = -1;
    private static final int READ = 0;
    private static final int PEEK = 1;
    private static final int GLANCE = 2;
    private static final int WRITE = 3;
    private static final int PUT = 4;
    private static final int COUNT = 5;
    private static final int ADD = 6;
    private static final int TALLY = 7;
    private static final int LOG = 8;
    private static final int TURN = 9;
    private static final int REST = 10;
    private static final int SUM = 11;
    private static final int PUMP = 0;
    private static final int VALVE = 1;
    private static final int METER = 2;
    private static final int FINE = 3;
    private static final int RELAY = 4;
    private static final int TWIN = 5;
    private static final int MUTE = 6;
    private static final int GAUGE = 7;
    private static final int BOOST = 8;
    private static final int SIPHON = 9;
    private static final int LEDGER = 10;
    private static final int[] WRONG = {Integer.MIN_VALUE, -2, -1, 1000, Integer.MAX_VALUE};

    private static int wrong = 0;

    private static void due(String what, long got, long want) {
        if (got != want) {
            wrong++;
            System.out.println(what + " answered " + got + ", due is " + want);
        }
    }

    private static void dueStatus(String what, LineOfKin house, int want) {
        due("status() after " + what, house.status(), want);
    }

    /** The whole chain, with how many ran, and nothing before and behind it. */
    private static void dueChain(String what, LineOfKin house, int... bodies) {
        due("ran() after " + what, house.ran(), bodies.length);
        for (int i = 0; i < bodies.length; i++) {
            due("chain(" + i + ") after " + what, house.chain(i), bodies[i]);
        }
        due("chain(-1) after " + what, house.chain(-1), NONE);
        due("chain(" + bodies.length + ") after " + what, house.chain(bodies.length), NONE);
    }

    /** A call by the device's kind on a new device, what it changes, and its chain. */
    private static void dueCall(String what, int kind, int v, int act, int x, int want,
            int wantV, int wantC, int... bodies) {
        LineOfKin house = new LineOfKin();
        due("device for " + what, house.device(kind, v), 0);
        due(what, house.call(0, act, 0, x), want);
        dueStatus(what, house, 0);
        due("v after " + what, house.state(0, 1), wantV);
        due("c after " + what, house.state(0, 2), wantC);
        dueChain(what, house, bodies);
    }

    private static LineOfKin houseOf(int... kinds) {
        LineOfKin house = new LineOfKin();
        for (int kind : kinds) {
            house.device(kind, 0);
        }
        return house;
    }

    private static void promise1NewObject() {
        LineOfKin house = new LineOfKin();
        due("NONE", LineOfKin.NONE, -1);
        for (int what = 0; what <= 6; what++) {
            due("size(" + what + ") of a new object", house.size(what), 0);
        }
        dueStatus("making", house, 0);
        dueChain("making", house);
        due("able(0, 0) of a new object", house.able(0, 0), NONE);
        due("link(0, 0) of a new object", house.link(0, 0), NONE);
        dueStatus("link of a new object", house, 1);
        LineOfKin other = new LineOfKin();
        house.device(PUMP, 1);
        due("another object's size", other.size(0), 0);
        dueStatus("nothing", other, 0);
    }

    private static void promise2Device() {
        LineOfKin house = new LineOfKin();
        for (int kind = 0; kind <= 10; kind++) {
            due("device(" + kind + ")", house.device(kind, 100 - kind), kind);
            dueStatus("device", house, 0);
            due("kind", house.state(kind, 0), kind);
            due("value", house.state(kind, 1), 100 - kind);
            due("count", house.state(kind, 2), 0);
        }
        for (int kind : new int[] {-1, 11, Integer.MIN_VALUE, Integer.MAX_VALUE}) {
            due("device(" + kind + ")", house.device(kind, 0), NONE);
            dueStatus("device of no kind", house, 1);
        }
        due("size(0) after refusals", house.size(0), 11);
        due("device with the lowest value", house.device(PUMP, Integer.MIN_VALUE), 11);
        dueStatus("a device after refusals", house, 0);
        due("the lowest value", house.state(11, 1), Integer.MIN_VALUE);
    }

    private static void promise2Room() {
        LineOfKin house = new LineOfKin();
        for (int i = 0; i < 300; i++) {
            due("device " + i, house.device(i % 11, i), i);
        }
        dueStatus("device 299", house, 0);
        due("device beyond the room", house.device(PUMP, 1), NONE);
        dueStatus("device beyond the room", house, 5);
        due("device of no kind, without room", house.device(11, 1), NONE);
        dueStatus("device of no kind, without room", house, 1);
        due("size(0)", house.size(0), 300);
        due("last value", house.state(299, 1), 299);
        due("call of the last", house.call(299, COUNT, 1, 0), 7);
        due("call beyond the last", house.call(300, COUNT, 1, 0), 0);
        dueStatus("call beyond the last", house, 1);
    }

    private static void promise3Pumps() {
        dueCall("PUMP read", PUMP, 7, READ, 2, 9, 7, 0, 100);
        dueCall("PUMP peek", PUMP, 7, PEEK, 2, 10, 7, 0, 10, 100);
        dueCall("PUMP glance", PUMP, 7, GLANCE, 2, 20, 7, 0, 11, 10, 100, 100);
        dueCall("PUMP write", PUMP, 7, WRITE, 3, 220, 220, 0, 62);
        dueCall("PUMP count", PUMP, 7, COUNT, 3, 10, 7, 1, 70);
        dueCall("PUMP turn", PUMP, 7, TURN, 3, 13, 12, 0, 101, 60);
        dueCall("PUMP rest", PUMP, 7, REST, 3, -2, -2, 0, 61);
        dueCall("PUMP sum", PUMP, 12, SUM, 1, 16 + 12 + 13, 12, 0, 64, 101, 60, 61, 63);
        dueCall("PUMP sum of shared bits", PUMP, 7, SUM, 3, 13 + 9 + 10, 9, 0, 64, 101, 60, 61, 63);
        dueCall("FINE read", FINE, 2, READ, 1, 9, 2, 0, 130, 100);
        dueCall("FINE peek", FINE, 2, PEEK, 1, 18, 2, 0, 131, 10, 130, 100);
        dueCall("FINE glance", FINE, 2, GLANCE, 0, 36, 2, 0, 11, 131, 10, 130, 100, 130, 100);
        dueCall("FINE turn", FINE, 2, TURN, 0, 5, 4, 0, 101, 60);
        dueCall("BOOST turn", BOOST, 1, TURN, 2, 5, 5, 0, 180, 101, 60);
        dueCall("BOOST glance", BOOST, 5, GLANCE, 0, 54 + 30, 5, 0,
                181, 11, 131, 10, 130, 100, 130, 100, 131, 10, 130, 100);
    }

    private static void promise3Valves() {
        dueCall("VALVE write", VALVE, 1, WRITE, 2, 33, 33, 0, 62);
        dueCall("VALVE put", VALVE, 33, PUT, 1, 32769, 31746, 0, 111, 20, 62, 62);
        dueCall("VALVE rest", VALVE, 10, REST, 2, 6, 4, 0, 110, 61, 112);
        dueCall("VALVE glance", VALVE, 0, GLANCE, 0, 85, 1, 0, 21, 111, 20, 62, 62);
        // turn 11; rest: v 8, 16 + (0 - 1); own is that of ROOT: 8 ^ 1
        dueCall("VALVE sum", VALVE, 10, SUM, 1, 11 + 15 + 9, 8, 0, 64, 60, 110, 61, 112, 63);
        dueCall("RELAY read", RELAY, 10, READ, 3, 7, 10, 0, 140);
        dueCall("RELAY peek", RELAY, 10, PEEK, 3, 8, 10, 0, 10, 140);
        dueCall("RELAY rest", RELAY, 10, REST, 1, 10, 4, 0, 142, 110, 61, 112);
        dueCall("RELAY glance", RELAY, 0, GLANCE, 0, 85 - 4, 1, 0,
                141, 21, 111, 20, 62, 62, 11, 10, 140, 140);
        dueCall("SIPHON read", SIPHON, 10, READ, 1, 26, 7, 0, 190, 110, 61, 112);
        dueCall("SIPHON glance", SIPHON, 0, GLANCE, 0, 17 - 2860, -2850, 0,
                30, 11, 10, 190, 110, 61, 112, 190, 110, 61, 112, 21, 111, 20, 62, 62);
        dueCall("SIPHON put", SIPHON, 33, PUT, 1, 32769, 31746, 0, 111, 20, 62, 62);
    }

    private static void promise3Meters() {
        dueCall("METER count", METER, 4, COUNT, 3, 10, 4, 1, 70);
        dueCall("METER add", METER, 4, ADD, 2, 31, 4, 1, 120, 70);
        dueCall("METER tally", METER, 4, TALLY, 0, 25 * 2 + 49, 4, 2, 41, 120, 70, 120, 70);
        dueCall("GAUGE tally", GAUGE, 1, TALLY, 1, 96 - 140, 1, 4,
                50, 41, 120, 70, 120, 70, 51, 52, 70, 70);
        dueCall("GAUGE log", GAUGE, 1, LOG, 1, 40 + 16, 1, 2, 51, 52, 70, 70);
        dueCall("TWIN read", TWIN, 0, READ, 2, 9, 0, 1, 150, 70);
        dueCall("TWIN put", TWIN, 0, PUT, 0, 2, 1, 0, 152, 20, 62, 62);
        dueCall("TWIN add", TWIN, 4, ADD, 2, 31, 4, 1, 120, 70);
        dueCall("TWIN glance", TWIN, 0, GLANCE, 0, 9 + 118, 33, 2,
                30, 11, 10, 150, 70, 150, 70, 21, 152, 20, 62, 62);
        dueCall("TWIN turn", TWIN, 0, TURN, 5, 5100, 4838, 2,
                151, 60, 30, 11, 10, 150, 70, 150, 70, 21, 152, 20, 62, 62);
    }

    private static void promise3Muted() {
        dueCall("MUTE count", MUTE, 1, COUNT, 5, 5, 1, 0, 160);
        dueCall("MUTE log", MUTE, 1, LOG, 3, 17, 1, 0, 161, 51, 52, 160, 160);
        dueCall("MUTE log below 0", MUTE, 1, LOG, -10, 208, 1, 0, 161, 51, 52, 160, 160);
        dueCall("MUTE turn", MUTE, 1, TURN, 4, 105, 2, 0, 163, 162, 60);
        dueCall("MUTE add", MUTE, 1, ADD, 3, 6, 1, 0, 40, 160);
        dueCall("MUTE tally", MUTE, 1, TALLY, 2, 10 - 12, 1, 0,
                50, 41, 40, 160, 40, 160, 161, 51, 52, 160, 160);
    }

    private static void promise3Ledger() {
        dueCall("LEDGER read", LEDGER, 5, READ, 2, 3, 5, 0, 140);
        dueCall("LEDGER count", LEDGER, 0, COUNT, 0, 8, 0, 1, 204, 70);
        dueCall("LEDGER log", LEDGER, 0, LOG, 1, 45 + 17, 0, 2, 51, 52, 204, 70, 204, 70);
        dueCall("LEDGER tally", LEDGER, 0, TALLY, 1, 37 - 146 + 5, 0, 4,
                201, 50, 41, 40, 204, 70, 40, 204, 70, 51, 52, 204, 70, 204, 70, 200);
        dueCall("LEDGER glance", LEDGER, 0, GLANCE, 0, 120 - 30737, 31714, 0,
                202, 30, 11, 10, 140, 140, 21, 111, 20, 62, 62,
                141, 21, 111, 20, 62, 62, 11, 10, 140, 140);
        dueCall("LEDGER rest", LEDGER, 10, REST, 1, 10, 4, 0, 142, 110, 61, 112);
    }

    private static void promise3Wraps() {
        int most = Integer.MAX_VALUE;
        dueCall("read that wraps", PUMP, most, READ, 1, Integer.MIN_VALUE, most, 0, 100);
        dueCall("write that wraps", VALVE, 1 << 30, WRITE, most,
                1073741823, 1073741823, 0, 62);
        dueCall("count that wraps", METER, 0, COUNT, most, -2147483642, 0, 1, 70);
        dueCall("rest that wraps", PUMP, Integer.MIN_VALUE, REST, 1,
                2147483645, 2147483645, 0, 61);
        dueCall("add that wraps", METER, 0, ADD, most, -2147483630, 0, 1, 120, 70);
    }

    /** The body that is selected of each act, for each kind; 0 where the kind has not the act. */
    private static void promise3Selected() {
        int[][] selected = {
            {100, 10, 11, 62, 0, 70, 0, 0, 0, 101, 61, 64},
            {0, 0, 21, 62, 111, 70, 0, 0, 0, 60, 110, 64},
            {0, 0, 0, 62, 0, 70, 120, 41, 0, 60, 61, 64},
            {130, 131, 11, 62, 0, 70, 0, 0, 0, 101, 61, 64},
            {140, 10, 141, 62, 111, 70, 0, 0, 0, 60, 142, 64},
            {150, 10, 30, 62, 152, 70, 120, 41, 0, 151, 61, 64},
            {0, 0, 0, 62, 0, 160, 40, 50, 161, 163, 61, 64},
            {0, 0, 0, 62, 0, 70, 120, 50, 51, 60, 61, 64},
            {130, 131, 181, 62, 0, 70, 0, 0, 0, 180, 61, 64},
            {190, 10, 30, 62, 111, 70, 0, 0, 0, 60, 110, 64},
            {140, 10, 202, 62, 111, 204, 40, 201, 51, 60, 142, 64},
        };
        for (int kind = 0; kind < 11; kind++) {
            for (int act = 0; act < 12; act++) {
                LineOfKin house = houseOf(kind);
                house.call(0, act, 0, 1);
                int body = selected[kind][act];
                String what = "act " + act + " of kind " + kind;
                dueStatus(what, house, body == 0 ? 3 : 0);
                due("chain(0) of " + what, house.chain(0), body == 0 ? NONE : body);
            }
        }
    }

    private static void promise3WaysDoNotChoose() {
        int[][] cases = {{READ, 2}, {READ, 4}, {PEEK, 2}, {PEEK, 4}, {GLANCE, 2}, {GLANCE, 3},
            {GLANCE, 4}, {WRITE, 1}, {WRITE, 3}, {WRITE, 4}, {PUT, 3}, {PUT, 4}, {COUNT, 1},
            {COUNT, 5}, {COUNT, 6}, {ADD, 5}, {ADD, 6}, {TALLY, 5}, {TALLY, 6}, {LOG, 6},
            {TURN, 1}, {REST, 1}, {SUM, 1}};
        for (int[] one : cases) {
            LineOfKin house = houseOf(LEDGER, LEDGER);
            String what = "act " + one[0] + " by way " + one[1];
            int byKind = house.call(0, one[0], 0, 3);
            int bodies = house.ran();
            due(what, house.call(1, one[0], one[1], 3), byKind);
            dueStatus(what, house, 0);
            due("ran() of " + what, house.ran(), bodies);
        }
    }

    private static void promise3Refusals() {
        LineOfKin house = houseOf(PUMP, GAUGE);
        due("a call", house.call(0, PEEK, 2, 4), 5);
        for (int number : WRONG) {
            due("call of no device", house.call(number, READ, 0, 0), 0);
            dueStatus("call of no device", house, 1);
        }
        due("call of a device not yet there", house.call(2, READ, 0, 0), 0);
        dueStatus("call of a device not yet there", house, 1);
        for (int act : new int[] {-1, 12, Integer.MIN_VALUE, Integer.MAX_VALUE}) {
            due("call of no act", house.call(0, act, 2, 0), 0);
            dueStatus("call of no act", house, 1);
            due("call of no act by a way not borne", house.call(0, act, 3, 0), 0);
            dueStatus("call of no act by a way not borne", house, 1);
        }
        for (int way : new int[] {-1, 7, Integer.MIN_VALUE, Integer.MAX_VALUE}) {
            due("call by no way", house.call(0, READ, way, 0), 0);
            dueStatus("call by no way", house, 1);
        }
        due("call by a way not borne", house.call(0, WRITE, 3, 1), 0);
        dueStatus("call by a way not borne", house, 2);
        due("call by a way not borne, without the act", house.call(0, TURN, 3, 1), 0);
        dueStatus("call by a way not borne, without the act", house, 2);
        due("call by a way without the act", house.call(0, COUNT, 2, 1), 0);
        dueStatus("call by a way without the act", house, 3);
        due("call by UNIT of read", house.call(0, READ, 1, 1), 0);
        dueStatus("call by UNIT of read", house, 3);
        due("call by the kind of put", house.call(0, PUT, 0, 1), 0);
        dueStatus("call by the kind of put", house, 3);
        due("call by COUNTS of log", house.call(1, LOG, 5, 1), 0);
        dueStatus("call by COUNTS of log", house, 3);
        due("v after refusals", house.state(0, 1), 0);
        due("c after refusals", house.state(0, 2), 0);
        dueChain("refusals", house, 10, 100);
    }

    /** Which acts each way has: a bit for each act, of each way of a LEDGER. */
    private static void promise3ActsOfWays() {
        int ofUnit = 0b111000101000;
        int reads = 0b111;
        int writes = 0b11100;
        int counts = 0b11100000;
        int logs = 0b111100000;
        int[] ofWay = {ofUnit | reads | writes | logs, ofUnit, reads, writes, reads | writes,
            counts, logs};
        for (int act = 0; act < 12; act++) {
            for (int way = 0; way < 7; way++) {
                LineOfKin house = houseOf(LEDGER);
                house.call(0, act, way, 1);
                dueStatus("act " + act + " by way " + way, house, (ofWay[way] >> act & 1) == 1 ? 0 : 3);
            }
        }
    }

    private static void promise4Every() {
        LineOfKin house = new LineOfKin();
        due("every in an empty house", house.every(READ, 2, 1), 0);
        dueStatus("every in an empty house", house, 0);
        house.device(PUMP, 1);
        house.device(VALVE, 2);
        house.device(METER, 3);
        house.device(RELAY, 4);
        due("every read by READS", house.every(READ, 2, 1), 2 + 3);
        dueStatus("every read by READS", house, 0);
        dueChain("every read by READS", house, 100, 140);
        due("every read by the kinds", house.every(READ, 0, 1), 2 + 3);
        dueStatus("every read by the kinds", house, 0);
        dueChain("every read by the kinds", house, 100, 140);
        due("every count by UNIT", house.every(COUNT, 1, 1), 4 * 8);
        dueChain("every count by UNIT", house, 70, 70, 70, 70);
        due("every count by COUNTS", house.every(COUNT, 5, 1), 15);
        dueChain("every count by COUNTS", house, 70);
        due("every rest by the kinds", house.every(REST, 0, 1), -2 + (-2 + 0) + 0 + (-4 - 1 + 4));
        dueChain("every rest by the kinds", house, 61, 110, 61, 112, 61, 142, 110, 61, 112);
        due("every log by the kinds", house.every(LOG, 0, 0), 0);
        dueStatus("every log by the kinds", house, 0);
        dueChain("every log by the kinds", house);
        due("every read by BOTH", house.every(READ, 4, 0), 0);
        dueStatus("every read by BOTH", house, 0);
        house.device(PUMP, Integer.MAX_VALUE);
        house.device(PUMP, 10);
        // PUMP and RELAY have come to -2 each
        due("every read that wraps", house.every(READ, 2, 0), Integer.MIN_VALUE + 5);
    }

    private static void promise4Refusals() {
        LineOfKin house = houseOf(PUMP, VALVE);
        due("every read", house.every(READ, 2, 5), 5);
        int[][] noNumbers = {{-1, 1}, {12, 1}, {12, 3}, {12, 0}, {READ, -1}, {READ, 7}, {-1, -1},
            {Integer.MAX_VALUE, 2}, {READ, Integer.MIN_VALUE}};
        for (int[] one : noNumbers) {
            due("every of no act or way", house.every(one[0], one[1], 1), 0);
            dueStatus("every of act " + one[0] + " by way " + one[1], house, 1);
        }
        int[][] notOfWay = {{READ, 1}, {READ, 3}, {PUT, 2}, {COUNT, 4}, {LOG, 5}, {TURN, 6}};
        for (int[] one : notOfWay) {
            due("every of an act not of the way", house.every(one[0], one[1], 1), 0);
            dueStatus("every of act " + one[0] + " by way " + one[1], house, 3);
        }
        dueChain("refused every", house, 100);
        LineOfKin empty = new LineOfKin();
        due("every in an empty house", empty.every(READ, 3, 1), 0);
        dueStatus("every of an act not of the way in an empty house", empty, 3);
    }

    private static void promise5Feed() {
        LineOfKin house = new LineOfKin();
        house.device(PUMP, 7);
        // count(0) = 7, read(7) = 14, read(-21) = -14, turn(7) = 17
        due("feed", house.feed(0, 0x0520A019), 24);
        dueStatus("feed", house, 0);
        dueChain("feed", house, 70, 100, 100, 101, 60);
        due("v after feed", house.state(0, 1), 16);
        due("c after feed", house.state(0, 2), 1);
        // no act 15; no way 7; WRITES is not borne; READS has no count
        due("feed of what is left out", house.feed(0, 0x0F703525), 0);
        dueStatus("feed of what is left out", house, 0);
        dueChain("feed of what is left out", house);
        // the highest byte's bit 7 is the sign of an int: no act 12, read(0), no act 13, read(-16)
        due("feed with the highest bit", house.feed(0, 0xAC208DA0), 16);
        dueChain("feed with the highest bit", house, 100, 100);
        due("feed of all ones", house.feed(0, -1), 0);
        dueStatus("feed of all ones", house, 0);
        // read four times: 16, 32, 64, 128
        due("feed of 0", house.feed(0, 0), 240);
        dueChain("feed of 0", house, 100, 100, 100, 100);
        for (int number : WRONG) {
            due("feed of no device", house.feed(number, 0), 0);
            dueStatus("feed of no device", house, 1);
        }
        dueChain("refused feed", house, 100, 100, 100, 100);
        LineOfKin wrapping = new LineOfKin();
        wrapping.device(PUMP, 1 << 30);
        // read four times: 2^30; 2^31, so that the sum is -2^30; 0; 0
        due("feed that wraps", wrapping.feed(0, 0x20202020), -(1 << 30));
    }

    private static void promise6Link() {
        LineOfKin house = houseOf(PUMP, PUMP, PUMP);
        due("link(0, 1)", house.link(0, 1), 0);
        dueStatus("link(0, 1)", house, 0);
        due("link(0, 1) again", house.link(0, 1), 1);
        due("link to itself", house.link(2, 2), 2);
        dueStatus("link to itself", house, 0);
        int[][] refused = {{3, 0}, {0, 3}, {-1, 0}, {0, -1}, {3, 3},
            {Integer.MIN_VALUE, 0}, {0, Integer.MAX_VALUE}};
        for (int[] one : refused) {
            due("link of no device", house.link(one[0], one[1]), NONE);
            dueStatus("link of no device", house, 1);
        }
        due("size(1)", house.size(1), 3);
        int[][] goComeOf = {{2, 0}, {0, 2}, {1, 1}};
        for (int d = 0; d < 3; d++) {
            due("links that go from " + d, house.state(d, 3), goComeOf[d][0]);
            due("links that come to " + d, house.state(d, 4), goComeOf[d][1]);
        }
        due("next link after refusals", house.link(1, 0), 3);
    }

    private static void promise6Room() {
        LineOfKin house = houseOf(MUTE, MUTE);
        for (int i = 0; i < 400; i++) {
            due("link " + i, house.link(0, i % 2), i);
        }
        dueStatus("link 399", house, 0);
        due("link beyond the room", house.link(0, 0), NONE);
        dueStatus("link beyond the room", house, 5);
        due("link of no device, without room", house.link(2, 0), NONE);
        dueStatus("link of no device, without room", house, 1);
        due("size(1)", house.size(1), 400);
        due("links that go from 0", house.state(0, 3), 400);
        due("links that come to 1", house.state(1, 4), 200);
        due("pass through 400 links", house.pass(0, 1), 2);
    }

    private static LineOfKin threeInATriangle(boolean meterFirst) {
        LineOfKin house = new LineOfKin();
        house.device(PUMP, 1);
        house.device(METER, 2);
        house.device(VALVE, 0);
        house.link(1, 2);
        house.link(0, meterFirst ? 1 : 2);
        house.link(0, meterFirst ? 2 : 1);
        return house;
    }

    private static void promise7Pass() {
        LineOfKin house = threeInATriangle(true);
        due("pass", house.pass(0, 3), 3);
        dueStatus("pass", house, 0);
        // peek(3) = 5; of 5: add = 38; of 5, not of 38: put = 5 + 161 - 1
        dueChain("pass", house, 10, 100, 120, 70, 111, 20, 62, 62);
        due("v of the VALVE", house.state(2, 1), 161);
        due("c of the METER", house.state(1, 2), 1);
        for (int d = 0; d < 3; d++) {
            due("taken by " + d, house.state(d, 5), 1);
        }
        house = threeInATriangle(false);
        due("pass, the other link first", house.pass(0, 3), 3);
        dueChain("pass, the other link first", house, 10, 100, 111, 20, 62, 62, 120, 70);
        due("pass from the METER", house.pass(1, 0), 2);
        dueChain("pass from the METER", house, 120, 70, 111, 20, 62, 62);
        due("taken by the PUMP", house.state(0, 5), 1);
        due("taken by the METER", house.state(1, 5), 2);
        due("taken by the VALVE", house.state(2, 5), 2);
        due("pass from the VALVE", house.pass(2, 0), 1);
        for (int number : WRONG) {
            due("pass of no device", house.pass(number, 0), 0);
            dueStatus("pass of no device", house, 1);
        }
        dueChain("refused pass", house, 111, 20, 62, 62);
    }

    private static void promise7WhatIsHandedOn() {
        LineOfKin house = new LineOfKin();
        house.device(PUMP, 10);
        house.device(PUMP, 100);
        house.device(METER, 0);
        house.link(0, 1);
        house.link(1, 2);
        house.link(2, 0);
        house.link(1, 1);
        // 10 + 5 + 1 = 16; 100 + 16 + 1 = 117; count(117) * 3, then back to who has taken
        due("pass in a ring", house.pass(0, 5), 3);
        dueChain("pass in a ring", house, 10, 100, 10, 100, 120, 70);
        due("c of the last", house.state(2, 2), 1);
        due("taken by who is linked to itself", house.state(1, 5), 1);
        due("pass once more", house.pass(1, 5), 3);
        due("taken by the first", house.state(0, 5), 2);
        LineOfKin values = new LineOfKin();
        values.device(PUMP, 10);
        values.device(VALVE, 0);
        values.link(0, 1);
        due("pass to a VALVE", values.pass(0, 5), 2);
        // put(16): write(16) = 16, write(17) = 16 * 31 + 17
        due("v of what took 16", values.state(1, 1), 513);
    }

    private static void promise7HowKindsTake() {
        int[][] chains = {{10, 100}, {111, 20, 62, 62}, {120, 70}, {131, 10, 130, 100},
            {111, 20, 62, 62}, {152, 20, 62, 62}, {40, 160}, {120, 70}, {131, 10, 130, 100},
            {111, 20, 62, 62}, {111, 20, 62, 62}};
        for (int kind = 0; kind < 11; kind++) {
            LineOfKin house = houseOf(kind);
            due("pass of kind " + kind, house.pass(0, 1), 1);
            dueChain("pass of kind " + kind, house, chains[kind]);
        }
    }

    private static void promise7LongLine() {
        LineOfKin house = new LineOfKin();
        for (int i = 0; i < 200; i++) {
            house.device(PUMP, 0);
        }
        for (int i = 0; i < 199; i++) {
            house.link(i, i + 1);
        }
        house.device(VALVE, 0);
        house.link(199, 200);
        due("pass through a line", house.pass(0, 0), 201);
        due("ran() in a line", house.ran(), 404);
        // 200 peeks of 0, each 1 more: write(200), write(201)
        due("v at the end", house.state(200, 1), 200 * 31 + 201);
    }

    private static void promise8Able() {
        String[] ways = {"1110000", "1101000", "1100010", "1110000", "1111000", "1111110",
            "1100011", "1100011", "1110000", "1111100", "1111111"};
        LineOfKin house = houseOf(0, 1, 2, 3, 4, 5, 6, 7, 8, 9, 10);
        for (int kind = 0; kind < 11; kind++) {
            for (int way = 0; way < 7; way++) {
                due("able(" + kind + ", " + way + ")", house.able(kind, way),
                        ways[kind].charAt(way) - '0');
            }
            for (int way : new int[] {-1, 7, 32, Integer.MIN_VALUE, Integer.MAX_VALUE}) {
                due("able(" + kind + ", " + way + ")", house.able(kind, way), NONE);
            }
        }
        due("able(11, 0)", house.able(11, 0), NONE);
        for (int number : WRONG) {
            due("able(" + number + ", 0)", house.able(number, 0), NONE);
        }
        dueStatus("able, which has none", house, 0);
        house.call(0, PUT, 3, 0);
        house.able(0, 0);
        dueStatus("able after a refused call", house, 2);
    }

    private static void promise9And10Chain() {
        LineOfKin house = new LineOfKin();
        for (int i = 0; i < 63; i++) {
            house.device(PUMP, 0);
        }
        house.device(VALVE, 0);
        house.every(REST, 1, 0);
        due("ran() beyond 64", house.ran(), 66);
        due("chain(0)", house.chain(0), 61);
        due("chain(62)", house.chain(62), 61);
        due("chain(63)", house.chain(63), 110);
        for (int i : new int[] {64, 65, 66, -1, Integer.MIN_VALUE, Integer.MAX_VALUE}) {
            due("chain(" + i + ")", house.chain(i), NONE);
        }
        house.every(PUT, 3, 0);
        dueChain("a shorter chain", house, 111, 20, 62, 62);
        house.device(PUMP, 0);
        house.link(0, 1);
        house.state(0, 0);
        dueChain("what has no chain", house, 111, 20, 62, 62);
        house.call(0, READ, 2, 0);
        dueChain("a call", house, 100);
        for (int i = 0; i < 8; i++) {
            house.device(LEDGER, 0);
        }
        int[] glance = {202, 30, 11, 10, 140, 140, 21, 111, 20, 62, 62,
            141, 21, 111, 20, 62, 62, 11, 10, 140, 140};
        house.every(GLANCE, 4, 0);
        due("ran() of eight glances", house.ran(), 8 * glance.length);
        for (int i = 0; i < 64; i++) {
            due("chain(" + i + ") of eight glances", house.chain(i), glance[i % glance.length]);
        }
        due("chain(64) of eight glances", house.chain(64), NONE);
    }

    private static void promise11State() {
        LineOfKin house = new LineOfKin();
        house.device(METER, 5);
        house.device(PUMP, -3);
        house.link(1, 0);
        house.link(1, 1);
        house.pass(1, 0);
        house.call(0, COUNT, 0, 0);
        int[][] due = {{2, 5, 2, 0, 1, 1}, {0, -3, 0, 2, 1, 1}};
        for (int d = 0; d < 2; d++) {
            for (int what = 0; what < 6; what++) {
                due("state(" + d + ", " + what + ")", house.state(d, what), due[d][what]);
                dueStatus("state", house, 0);
            }
        }
        for (int what : new int[] {-1, 6, Integer.MIN_VALUE, Integer.MAX_VALUE}) {
            due("state(0, " + what + ")", house.state(0, what), 0);
            dueStatus("state of no what", house, 1);
        }
        house.state(0, 0);
        for (int number : WRONG) {
            due("state(" + number + ", 1)", house.state(number, 1), 0);
            dueStatus("state of no device", house, 1);
        }
        due("state(2, 0)", house.state(2, 0), 0);
        dueStatus("state of a device not yet there", house, 1);
    }

    private static void promise12Size() {
        LineOfKin house = houseOf(0, 1, 2, 3, 4, 5, 6, 7, 8, 9, 10, 6);
        house.link(0, 0);
        house.link(0, 1);
        int[] due = {12, 2, 7, 5, 3, 6, 4};
        for (int what = 0; what < 7; what++) {
            due("size(" + what + ")", house.size(what), due[what]);
        }
        for (int what : new int[] {-1, 7, 32, Integer.MIN_VALUE, Integer.MAX_VALUE}) {
            due("size(" + what + ")", house.size(what), NONE);
        }
        dueStatus("size, which has none", house, 0);
    }

    private static void promise13Status() {
        LineOfKin house = houseOf(PUMP);
        house.device(-1, 0);
        dueStatus("a refused device", house, 1);
        house.size(99);
        house.chain(-1);
        house.ran();
        house.able(-1, 0);
        dueStatus("what has no status", house, 1);
        house.call(0, PUT, 3, 0);
        dueStatus("a way not borne", house, 2);
        house.call(0, READ, 1, 0);
        dueStatus("an act not of the way", house, 3);
        house.link(0, 0);
        dueStatus("a link", house, 0);
        house.feed(1, 0);
        dueStatus("a refused feed", house, 1);
        house.feed(0, 0x0F0F0F0F);
        dueStatus("a feed", house, 0);
        house.pass(1, 0);
        dueStatus("a refused pass", house, 1);
        house.pass(0, 0);
        dueStatus("a pass", house, 0);
        house.every(READ, 5, 0);
        dueStatus("a refused every", house, 3);
        house.every(READ, 2, 0);
        dueStatus("an every", house, 0);
        house.state(0, 6);
        dueStatus("a refused state", house, 1);
        house.state(0, 5);
        dueStatus("a state", house, 0);
    }

    private static void calls512() {
        LineOfKin house = new LineOfKin();
        house.device(METER, 0);
        for (int i = 1; i < 512; i++) {
            due("count " + i, house.call(0, COUNT, 5, i), i * 7 + i);
        }
        LineOfKin pulsing = houseOf(MUTE);
        for (int i = 1; i < 511; i++) {
            due("pass " + i, pulsing.pass(0, i), 1);
        }
        due("taken", pulsing.state(0, 5), 510);
    }

    public static void main(String[] args) {
        promise1NewObject();
        promise2Device();
        promise2Room();
        promise3Pumps();
        promise3Valves();
        promise3Meters();
        promise3Muted();
        promise3Ledger();
        promise3Wraps();
        promise3Selected();
        promise3WaysDoNotChoose();
        promise3Refusals();
        promise3ActsOfWays();
        promise4Every();
        promise4Refusals();
        promise5Feed();
        promise6Link();
        promise6Room();
        promise7Pass();
        promise7WhatIsHandedOn();
        promise7HowKindsTake();
        promise7LongLine();
        promise8Able();
        promise9And10Chain();
        promise11State();
        promise12Size();
        promise13Status();
        calls512();
        System.out.println(wrong == 0 ? "all answers are as due" : wrong + " answers are not as due");
        if (wrong != 0) {
            System.exit(1);
        }
    }
}
