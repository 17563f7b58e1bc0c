/**
 * "All numbers are of 32 bits and wrap; what an expression says is done from the left to the right,
 * and v, c are what they are when they are come to." Each body and each sum has cases of its own.
 */
public final class WrapTest {
    private static final int MAX = Integer.MAX_VALUE;
    private static final int MIN = Integer.MIN_VALUE;
    private static final int QUARTER = 1 << 30;
    private static final int READ = 0;
    private static final int PEEK = 1;
    private static final int GLANCE = 2;
    private static final int WRITE = 3;
    private static final int PUT = 4;
    private static final int COUNT = 5;
    private static final int ADD = 6;
    private static final int TALLY = 7;
    private static final int LOG = 8;
    private static final int TURN = 9;
    private static final int REST = 10;
    private static final int SUM = 11;
    private static final int PUMP = 0;
    private static final int VALVE = 1;
    private static final int METER = 2;
    private static final int FINE = 3;
    private static final int RELAY = 4;
    private static final int TWIN = 5;
    private static final int MUTE = 6;
    private static final int GAUGE = 7;
    private static final int BOOST = 8;
    private static final int SIPHON = 9;
    private static final int LEDGER = 10;

    private static int wrong = 0;

    private static void due(String what, long got, long want) {
        if (got != want) {
            wrong++;
            System.out.println(what + " answered " + got + ", due is " + want);
        }
    }

    private static LineOfKin houseOf(int kind, int v) {
        LineOfKin house = new LineOfKin();
        house.device(kind, v);
        return house;
    }

    /** A call on a new device by its kind: what it answers, and what v and c become. */
    private static void dueCall(String what, int kind, int v, int act, int x,
            int want, int wantV, int wantC) {
        LineOfKin house = houseOf(kind, v);
        due(what, house.call(0, act, 0, x), want);
        due("status() after " + what, house.status(), 0);
        due("v after " + what, house.state(0, 1), wantV);
        due("c after " + what, house.state(0, 2), wantC);
    }

    private static void dueChain(String what, LineOfKin house, int... bodies) {
        due("ran() after " + what, house.ran(), bodies.length);
        for (int i = 0; i < bodies.length; i++) {
            due("chain(" + i + ") after " + what, house.chain(i), bodies[i]);
        }
    }

    // ---- numbers that wrap, body by body

    private static void valuesOfDevices() {
        for (int v : new int[] {MIN, MIN + 1, -1, 0, 1, MAX - 1, MAX}) {
            LineOfKin house = houseOf(METER, v);
            due("state(0, 1) of a device of " + v, house.state(0, 1), v);
        }
    }

    private static void bodiesOfReads() {
        dueCall("10: MAX + 1", PUMP, MAX, PEEK, 0, MIN, MAX, 0);
        dueCall("11: (2^30 + 1) * 3 - (2^30 + 1)", PUMP, QUARTER, GLANCE, 0, MIN + 2, QUARTER, 0);
        // peek(MAX) is MIN, MIN * 3 is MIN, read(MAX + 1) is MIN
        dueCall("11: x + 1", PUMP, 0, GLANCE, MAX, 0, 0, 0);
    }

    private static void bodiesOfWrites() {
        // write(MAX) is MAX; write(MIN) is MAX * 31 + MIN, which is -31; and 1 less by 111
        dueCall("20: x + 1, and * 31", VALVE, 0, PUT, MAX, MAX - 32, -31, 0);
        dueCall("21: of a sum that wraps", VALVE, 0, GLANCE, MAX, (MAX - 32) ^ 85, -31, 0);
        // 1106279455 * 33 + 1 is MIN
        dueCall("111: MIN - 1", VALVE, 0, PUT, 1106279455, MAX, 1041204193, 0);
        // 65075262 * 33 + 1 is MAX
        dueCall("152: MAX + 1", TWIN, 0, PUT, 65075262, MIN, 2082408385, 0);
    }

    private static void bodiesOfBoth() {
        dueCall("30 of SIPHON", SIPHON, 0, GLANCE, MAX, -2147480554, 2884, 0);
        dueCall("30 of SIPHON, the lowest", SIPHON, MIN, GLANCE, MIN, 2147480805, 2147480798, 0);
        dueCall("30 of TWIN", TWIN, 0, GLANCE, MAX, MIN + 94, 1, 2);
        dueCall("30 of TWIN, the highest", TWIN, MAX, GLANCE, MAX, 2147482748, 2147482688, 2);
    }

    private static void bodiesOfCounts() {
        dueCall("40: MAX + MAX", MUTE, 0, ADD, MAX, -2, 0, 0);
        // add(-7) is 2^30, * 2 is MIN; add(1) is 15 * 3 + 2^30
        dueCall("41: 2^30 * 2", METER, QUARTER, TALLY, -7, 45 - QUARTER, QUARTER, 2);
        // 3 * 2^30 is -2^30, and MIN less
        dueCall("120: 2^30 * 3 + MIN", METER, MIN, ADD, QUARTER - 7, QUARTER, MIN, 1);
        dueCall("120: (MAX + 7) * 3", METER, 0, ADD, MAX, MIN + 18, 0, 1);
    }

    private static void bodiesOfLogged() {
        dueCall("50 of GAUGE, the highest", GAUGE, MAX, TALLY, MAX, -52, MAX, 4);
        dueCall("50 of GAUGE, the lowest", GAUGE, MIN, TALLY, MIN, -48, MIN, 4);
        dueCall("50 of GAUGE", GAUGE, 0, TALLY, MAX, MAX - 48, 0, 4);
        // MAX * 2 * 2 + 2 is -2; log is 253
        dueCall("50 of MUTE", MUTE, 0, TALLY, MAX, -255, 0, 0);
        // mark is MAX * 5, which is MAX - 4; count(2) is 16
        dueCall("51: MAX - 4 + 16", GAUGE, 0, LOG, MAX - 7, MIN + 11, 0, 2);
        dueCall("52: 2^30 * 5", GAUGE, 0, LOG, QUARTER - 7, QUARTER + 16, 0, 2);
    }

    private static void bodiesOfRoot() {
        dueCall("60: MAX + 1", VALVE, MAX, TURN, 1, MIN, MIN, 0);
        dueCall("60: MIN - 1", VALVE, MIN, TURN, -1, MAX, MAX, 0);
        dueCall("61: MIN - 3", PUMP, MIN, REST, 1, MAX - 2, MAX - 2, 0);
        dueCall("61: 3 * 2^30", PUMP, 0, REST, QUARTER, QUARTER, QUARTER, 0);
        dueCall("61: 3 * MIN", PUMP, 0, REST, MIN, MIN, MIN, 0);
        dueCall("62: 2^30 * 31", PUMP, QUARTER, WRITE, 0, -QUARTER, -QUARTER, 0);
        dueCall("62: MAX * 31 + MAX", PUMP, MAX, WRITE, MAX, -32, -32, 0);
        // turn is MIN, rest MAX - 3, own (MAX - 3) ^ 1
        dueCall("64 of PUMP", PUMP, MAX - 3, SUM, 1, MAX - 6, MAX - 3, 0);
        // turn is -2, rest -5, own -5 ^ MAX, which is MIN + 4
        dueCall("63 and 64 of METER", METER, MAX, SUM, MAX, MAX - 2, -5, 0);
    }

    private static void bodiesOfUnit() {
        dueCall("70: 7 + MAX", METER, 0, COUNT, MAX, MIN + 6, 0, 1);
        dueCall("70: 7 + MIN", METER, 0, COUNT, MIN, MIN + 7, 0, 1);
    }

    private static void bodiesOfPumps() {
        dueCall("100: MAX + 1", PUMP, MAX, READ, 1, MIN, MAX, 0);
        dueCall("100: MIN - 1", PUMP, MIN, READ, -1, MAX, MIN, 0);
        dueCall("101: x + 2", PUMP, 0, TURN, MAX, MIN + 2, MIN + 1, 0);
        dueCall("101: MAX + 1", PUMP, MAX - 2, TURN, 0, MIN, MAX, 0);
        dueCall("130: 2^30 * 3", FINE, QUARTER, READ, 0, -QUARTER, QUARTER, 0);
        // 715827882 * 3 + 1 is MAX
        dueCall("131: MAX + 5", FINE, 715827882, PEEK, -1, MIN + 4, 715827882, 0);
        dueCall("131: x + 1", FINE, 0, PEEK, MAX, MIN + 6, 0, 0);
        dueCall("180: MIN - 1", BOOST, MAX - 2, TURN, 0, MAX, MAX, 0);
        dueCall("181", BOOST, QUARTER, GLANCE, 0, QUARTER + 39, QUARTER, 0);
        dueCall("181: x + 1", BOOST, 0, GLANCE, MAX, 33, 0, 0);
    }

    private static void bodiesOfValves() {
        dueCall("110: 2^30 * 2", VALVE, QUARTER, REST, 0, MIN, QUARTER, 0);
        // v becomes 0 - 3 * MIN, which is MIN; MIN * 2 is 0; own is 0 - MIN
        dueCall("112: 0 - MIN", VALVE, 0, REST, MIN, MIN, MIN, 0);
        dueCall("140: MIN - 1", RELAY, MIN, READ, 1, MAX, MIN, 0);
        dueCall("140: 0 - MIN", RELAY, 0, READ, MIN, MIN, 0, 0);
        dueCall("141", RELAY, 0, GLANCE, MAX, MAX - 57, -31, 0);
        dueCall("141, the farthest", RELAY, MAX, GLANCE, MIN, -2147482637, 2147482688, 0);
        dueCall("142: x + 1", RELAY, 0, REST, MAX, MIN + 4, MIN, 0);
        dueCall("142: MIN + 1", RELAY, 0, REST, MIN, MAX - 2, MAX - 2, 0);
        dueCall("190: 2^30 * 2", SIPHON, 1 << 29, READ, 0, MIN, 1 << 29, 0);
        dueCall("190: MIN * 2", SIPHON, 0, READ, MIN, 0, MIN, 0);
    }

    private static void bodiesOfTwin() {
        dueCall("150: MAX + 1", TWIN, 1, READ, MAX - 7, MIN, 1, 1);
        dueCall("151", TWIN, MAX, TURN, 1, MIN + 127, MIN + 33, 2);
        dueCall("151, the lowest", TWIN, 0, TURN, MIN, MIN + 127, MIN + 33, 2);
    }

    private static void bodiesOfMute() {
        dueCall("160", MUTE, 5, COUNT, MIN, MIN, 5, 0);
        dueCall("161: of MAX * 5 + 2", MUTE, 0, LOG, MAX, 253, 0, 0);
        dueCall("161: of MIN * 5 + 2", MUTE, 0, LOG, MIN, 2, 0, 0);
        dueCall("162: MAX + 99", MUTE, 0, TURN, MAX, MIN + 99, 1, 0);
        dueCall("163: MAX + 1", MUTE, 0, TURN, MAX - 99, MIN, 1, 0);
        dueCall("163: of a turn that wraps", MUTE, MAX, TURN, 0, MIN + 99, MIN, 0);
    }

    private static void bodiesOfLedger() {
        dueCall("200 and 201, the highest", LEDGER, 0, TALLY, MAX, -104, 0, 4);
        dueCall("200 and 201, the lowest", LEDGER, 0, TALLY, MIN, -104, 0, 4);
        dueCall("202, the highest", LEDGER, 0, GLANCE, MAX, -769, 930, 0);
        dueCall("202, the lowest", LEDGER, MIN, GLANCE, MIN, -30617, -2147451934, 0);
        dueCall("204: MAX + 1", LEDGER, 0, COUNT, MAX - 7, MIN, 0, 1);
        dueCall("40 of LEDGER", LEDGER, 0, ADD, MAX, 6, 0, 1);
        dueCall("51 of LEDGER", LEDGER, 0, LOG, MAX, MIN + 52, 0, 2);
    }

    // ---- sums of answers, and answers that go on

    private static void sumOfEvery() {
        LineOfKin house = houseOf(PUMP, MAX);
        house.device(PUMP, MAX);
        due("every: MAX + MAX", house.every(READ, 2, 0), -2);
        house.device(PUMP, 3);
        due("every: past MAX and back", house.every(READ, 0, 0), 1);
        house = houseOf(PUMP, MIN);
        house.device(RELAY, -1);
        due("every: MIN - 1", house.every(READ, 2, 0), MAX);
        due("status() after every that wraps", house.status(), 0);
    }

    private static void sumOfFeed() {
        LineOfKin house = houseOf(PUMP, QUARTER);
        // read(0) is 2^30; read(2^30) is MIN, so that the sum is -2^30; then read(-2^30) is 0, twice
        due("feed that wraps", house.feed(0, 0x20202020), -QUARTER);
        dueChain("feed that wraps", house, 100, 100, 100, 100);
    }

    /** "with bit 7 less than nothing (0 less it)": of the lowest number, that is the lowest. */
    private static void feedLessTheLowest() {
        LineOfKin house = houseOf(PUMP, MIN);
        // read(0) is MIN; read(0 - MIN) is MIN + MIN, which is 0; what is left out adds nothing
        due("feed of 0 less MIN", house.feed(0, 0x20A0FFFF), MIN);
        dueChain("feed of 0 less MIN", house, 100, 100);
        house = houseOf(MUTE, 0);
        // write(0), turn(0) is 99 + 1, count(-100) is -100, count(0) is 0
        due("feed to and fro", house.feed(0, 0x13199515), 0);
        dueChain("feed to and fro", house, 62, 163, 162, 60, 160, 160);
    }

    private static void pulseThatWraps() {
        LineOfKin house = houseOf(PUMP, MAX);
        house.device(PUMP, MAX);
        house.device(VALVE, 0);
        house.link(0, 1);
        house.link(1, 2);
        // peek(1) is MAX + 1 + 1, MIN + 1; then MAX + MIN + 1 + 1 is 1; write(1) and write(2)
        due("pass of what wraps", house.pass(0, 1), 3);
        due("v of who took it", house.state(2, 1), 33);
        due("pass of MIN", house.pass(2, MIN), 1);
        // 33 * 31 + MIN, then * 31 + MIN + 1
        due("v after put of MIN", house.state(2, 1), 1023 * 31 + 1);
    }

    private static void valueThatWrapsAgainAndAgain() {
        LineOfKin house = houseOf(VALVE, 0);
        int v = 0;
        for (int i = 1; i <= 100; i++) {
            v = (int) ((v * 31L + MAX) & 0xFFFFFFFFL);
            due("write " + i, house.call(0, WRITE, 3, MAX), v);
        }
        for (int i = 1; i <= 100; i++) {
            v = (int) ((v - 3L * (MIN + i)) & 0xFFFFFFFFL);
            // rest of a VALVE: * 2, and c - x, where c is 0
            due("rest " + i, house.call(0, REST, 1, MIN + i), (int) (2L * v - (MIN + i)));
        }
        due("v in the end", house.state(0, 1), v);
    }

    // ---- from the left to the right, v and c as they are when they are come to

    private static void fromTheLeft(String what, int kind, int v, int act, int x, int want,
            int... bodies) {
        LineOfKin house = houseOf(kind, v);
        due(what, house.call(0, act, 0, x), want);
        dueChain(what, house, bodies);
    }

    private static void leftToRight() {
        // v 4, peek(1) is (4 * 2 - 1) * 2 + 1; v -2, read(2) is (-2 * 2 - 2) * 2; put(2): -60, -1857
        fromTheLeft("11, peek before read", SIPHON, 7, GLANCE, 1,
                15 * 3 + 12 + ((-60 - 1857 - 1) ^ 85),
                30, 11, 10, 190, 110, 61, 112, 190, 110, 61, 112, 21, 111, 20, 62, 62);
        // write(2) is 33, write(3) is 33 * 31 + 3
        fromTheLeft("20, write(x) before write(x + 1)", VALVE, 1, PUT, 2, 33 + 1026 - 1,
                111, 20, 62, 62);
        // add(2) is 9 * 3, add(1) is 15 * 3
        fromTheLeft("41, add(x) before add(1)", METER, 0, TALLY, 2, 27 * 2 + 45,
                41, 120, 70, 120, 70);
        // tally is 9 * 3 * 2 + 15 * 3; mark (21 + 2) * 5; count(2) 30
        fromTheLeft("50 and 51, tally, mark, count", GAUGE, 0, TALLY, 2, 99 - 115 - 30,
                50, 41, 120, 70, 120, 70, 51, 52, 70, 70);
        // v is 14 by turn, 11 by rest: own is 11 ^ 4
        fromTheLeft("64, own of the v that rest leaves", VALVE, 10, SUM, 4, 14 + 21 + 15,
                64, 60, 110, 61, 112, 63);
        // count(2) is 9, then v
        fromTheLeft("120, count before v", METER, 5, ADD, 2, 9 * 3 + 5, 120, 70);
        // put is 33 + 1026 - 1, ^ 85; then v is 1026: (1025 + 1) * 3 - 1024
        fromTheLeft("141, super.glance before that of READS", RELAY, 1, GLANCE, 2,
                (1058 ^ 85) - (1026 * 3 - 1024), 141, 21, 111, 20, 62, 62, 11, 10, 140, 140);
        // v is 5 by turn; then read(0) is 12, read(1) 20; put(1): 156, 156 * 31 + 2
        fromTheLeft("151, super.turn before glance", TWIN, 0, TURN, 5,
                5 ^ (13 * 3 - 20 + ((156 + 4838 + 1) ^ 85)),
                151, 60, 30, 11, 10, 150, 70, 150, 70, 21, 152, 20, 62, 62);
        fromTheLeft("163, mark before super.turn", MUTE, 1, TURN, 4, 103 + 2, 163, 162, 60);
        // c is 4 when mark comes to it
        fromTheLeft("201, mark of the c that tally leaves", LEDGER, 0, TALLY, 1, 37 - 146 + 5,
                201, 50, 41, 40, 204, 70, 40, 204, 70, 51, 52, 204, 70, 204, 70, 200);
        fromTheLeft("202, that of BOTH before super.glance", LEDGER, 0, GLANCE, 0, 120 - 30737,
                202, 30, 11, 10, 140, 140, 21, 111, 20, 62, 62,
                141, 21, 111, 20, 62, 62, 11, 10, 140, 140);
    }

    /** own of VALVE is "c - x": the c that was counted before. */
    private static void countsThatWereMade() {
        LineOfKin house = houseOf(VALVE, 0);
        for (int i = 1; i <= 3; i++) {
            due("count " + i, house.call(0, COUNT, 1, 0), 7 * i);
        }
        due("rest with c of 3", house.call(0, REST, 1, 1), -3 * 2 + 3 - 1);
        house = houseOf(LEDGER, 0);
        house.call(0, COUNT, 1, 0);
        due("count by the parent's body, and 1 more", house.call(0, COUNT, 1, 0), 15);
        due("c of a LEDGER", house.state(0, 2), 2);
    }

    public static void main(String[] args) {
        valuesOfDevices();
        bodiesOfReads();
        bodiesOfWrites();
        bodiesOfBoth();
        bodiesOfCounts();
        bodiesOfLogged();
        bodiesOfRoot();
        bodiesOfUnit();
        bodiesOfPumps();
        bodiesOfValves();
        bodiesOfTwin();
        bodiesOfMute();
        bodiesOfLedger();
        sumOfEvery();
        sumOfFeed();
        feedLessTheLowest();
        pulseThatWraps();
        valueThatWrapsAgainAndAgain();
        leftToRight();
        countsThatWereMade();
        System.out.println(wrong == 0 ? "all answers are as due" : wrong + " answers are not as due");
        if (wrong != 0) {
            System.exit(1);
        }
    }
}
