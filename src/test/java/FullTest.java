/**
 * What is full, each sentence of the document with a test of its own: 64 bodies of THE CHAIN, 300
 * devices, 400 links, and 512 calls of an object.
 */
public final class FullTest {
    private static final int NONE = -1;
    private static final int MAX = Integer.MAX_VALUE;
    private static final int MIN = Integer.MIN_VALUE;
    private static final int READ = 0;
    private static final int GLANCE = 2;
    private static final int WRITE = 3;
    private static final int COUNT = 5;
    private static final int ADD = 6;
    private static final int TURN = 9;
    private static final int REST = 10;
    private static final int PUMP = 0;
    private static final int VALVE = 1;
    private static final int METER = 2;
    private static final int RELAY = 4;
    private static final int MUTE = 6;
    private static final int GAUGE = 7;
    private static final int LEDGER = 10;
    private static final int[] FAR = {MIN, MIN + 1, -65536, -32, -2, -1, 300, 400, 65536, MAX - 1, MAX};

    private static int wrong = 0;

    private static void due(String what, long got, long want) {
        if (got != want) {
            wrong++;
            if (wrong <= 100) {
                System.out.println(what + " answered " + got + ", due is " + want);
            }
        }
    }

    private static void dueStatus(String what, LineOfKin house, int want) {
        due("status() after " + what, house.status(), want);
    }

    /** The whole chain, and nothing before and behind it. */
    private static void dueChain(String what, LineOfKin house, int... bodies) {
        due("ran() after " + what, house.ran(), bodies.length);
        for (int i = 0; i < bodies.length; i++) {
            due("chain(" + i + ") after " + what, house.chain(i), bodies[i]);
        }
        due("chain(-1) after " + what, house.chain(-1), NONE);
        due("chain(" + bodies.length + ") after " + what, house.chain(bodies.length), NONE);
        due("chain(63) after " + what, house.chain(63), NONE);
    }

    private static LineOfKin houseOf(int... kinds) {
        LineOfKin house = new LineOfKin();
        for (int kind : kinds) {
            house.device(kind, 0);
        }
        return house;
    }

    private static LineOfKin houseOfMany(int many, int kind) {
        LineOfKin house = new LineOfKin();
        for (int i = 0; i < many; i++) {
            house.device(kind, 0);
        }
        return house;
    }

    // ---- full: THE CHAIN

    /** "the first 64 of these are kept", and ran() tells "also beyond the 64". */
    private static void chainAround64() {
        for (int many = 61; many <= 67; many++) {
            LineOfKin house = houseOfMany(many - 1, PUMP);
            house.device(GAUGE, 0);
            due("every count of " + many, house.every(COUNT, 1, 0), 7 * many);
            due("ran() of " + many, house.ran(), many);
            house.every(READ, 2, 1);
            due("ran() of the PUMPs", house.ran(), many - 1);
            house.every(REST, 1, 0);
            for (int i = 0; i < 70; i++) {
                due("chain(" + i + ") of " + many, house.chain(i), i < many && i < 64 ? 61 : NONE);
            }
        }
    }

    private static void lastKeptIsInItsPlace() {
        for (int many = 62; many <= 65; many++) {
            LineOfKin house = houseOfMany(many, PUMP);
            house.device(LEDGER, 0);
            house.device(PUMP, 0);
            house.every(REST, 0, 0);
            // 142, 110, 61, 112 of the LEDGER, and the last PUMP's
            due("ran() behind " + many, house.ran(), many + 5);
            int[] tail = {142, 110, 61, 112, 61};
            for (int i = 60; i < 70; i++) {
                int body = i < many ? 61 : i < many + 5 ? tail[i - many] : NONE;
                due("chain(" + i + ") behind " + many, house.chain(i), i < 64 ? body : NONE);
            }
        }
    }

    private static void chainOfFeedBeyond64() {
        LineOfKin house = houseOf(LEDGER);
        int[] glance = {202, 30, 11, 10, 140, 140, 21, 111, 20, 62, 62,
            141, 21, 111, 20, 62, 62, 11, 10, 140, 140};
        house.feed(0, 0x42424202);
        due("ran() of four glances", house.ran(), 84);
        for (int i = 0; i < 84; i++) {
            due("chain(" + i + ") of four glances", house.chain(i), i < 64 ? glance[i % 21] : NONE);
        }
        house.feed(0, 0x424242FF);
        due("ran() of three glances", house.ran(), 63);
        due("chain(62) of three glances", house.chain(62), 140);
        due("chain(63) of three glances", house.chain(63), NONE);
        house.feed(0, 0x42424203);
        due("ran() of three glances and a write", house.ran(), 64);
        due("chain(63) of three glances and a write", house.chain(63), 62);
        due("chain(64) of three glances and a write", house.chain(64), NONE);
    }

    private static void chainOfPassBeyond64() {
        LineOfKin house = houseOfMany(17, VALVE);
        for (int i = 0; i < 16; i++) {
            house.link(i, i + 1);
        }
        due("pass", house.pass(0, 1), 17);
        due("ran() of pass", house.ran(), 68);
        int[] put = {111, 20, 62, 62};
        for (int i = 0; i < 68; i++) {
            due("chain(" + i + ") of pass", house.chain(i), i < 64 ? put[i % 4] : NONE);
        }
        due("pass from the second", house.pass(1, 1), 16);
        due("ran() of it", house.ran(), 64);
        due("chain(63) of it", house.chain(63), 62);
        due("chain(64) of it", house.chain(64), NONE);
    }

    /** A shorter chain behind a full one keeps nothing of it. */
    private static void chainBehindFullOne() {
        LineOfKin house = houseOfMany(80, MUTE);
        house.every(COUNT, 6, 1);
        due("ran() of 80", house.ran(), 80);
        house.call(3, ADD, 5, 1);
        dueChain("call behind a full one", house, 40, 160);
        house.every(COUNT, 6, 1);
        house.every(READ, 2, 1);
        dueChain("every of none behind a full one", house);
        house.every(COUNT, 6, 1);
        house.pass(0, 1);
        dueChain("pass behind a full one", house, 40, 160);
        house.every(COUNT, 6, 1);
        house.feed(79, 0x55FFFFFF);
        dueChain("feed behind a full one", house, 160);
        for (int i : FAR) {
            due("chain(" + i + ")", house.chain(i), NONE);
        }
    }

    private static void ranOfVeryMany() {
        LineOfKin house = houseOfMany(300, LEDGER);
        house.every(GLANCE, 4, 1);
        due("ran() of 300 glances", house.ran(), 6300);
        due("chain(0) of 300 glances", house.chain(0), 202);
        due("chain(63) of 300 glances", house.chain(63), 202);
        due("chain(64) of 300 glances", house.chain(64), NONE);
        due("chain(6299) of 300 glances", house.chain(6299), NONE);
    }

    // ---- full: 300 devices, 400 links

    /** "5: there are 300". */
    private static void devicesToTheFull() {
        LineOfKin house = new LineOfKin();
        for (int i = 0; i < 300; i++) {
            due("device " + i, house.device(i % 2 == 0 ? PUMP : GAUGE, 1000 - i), i);
        }
        dueStatus("device 299", house, 0);
        due("device 300", house.device(PUMP, 7), NONE);
        dueStatus("device 300", house, 5);
        due("device 300 of no KIND", house.device(11, 7), NONE);
        dueStatus("device 300 of no KIND", house, 1);
        due("device 300 again", house.device(LEDGER, 7), NONE);
        dueStatus("device 300 again", house, 5);
        int[] sizes = {300, 0, 150, 0, 0, 150, 150};
        for (int what = 0; what <= 6; what++) {
            due("size(" + what + ") of 300", house.size(what), sizes[what]);
        }
        for (int i = 0; i < 300; i += 23) {
            due("VALUE of " + i, house.state(i, 1), 1000 - i);
            due("KIND of " + i, house.state(i, 0), i % 2 == 0 ? PUMP : GAUGE);
        }
    }

    private static void lastOf300() {
        LineOfKin house = houseOfMany(299, PUMP);
        house.device(METER, 5);
        due("able(299, 5)", house.able(299, 5), 1);
        due("able(300, 5)", house.able(300, 5), NONE);
        due("call of 299", house.call(299, COUNT, 5, 1), 8);
        due("call of 300", house.call(300, COUNT, 1, 1), 0);
        dueStatus("call of 300", house, 1);
        due("feed of 299", house.feed(299, 0x55FFFFFF), 14);
        due("feed of 300", house.feed(300, 0x15FFFFFF), 0);
        dueStatus("feed of 300", house, 1);
        due("link(299, 0)", house.link(299, 0), 0);
        due("link(0, 299)", house.link(0, 299), 1);
        due("link(300, 299)", house.link(300, 299), NONE);
        due("link(299, 300)", house.link(299, 300), NONE);
        dueStatus("link(299, 300)", house, 1);
        due("pass from 299", house.pass(299, 1), 2);
        due("pass from 300", house.pass(300, 1), 0);
        dueStatus("pass from 300", house, 1);
        due("c of 299", house.state(299, 2), 3);
        due("state of 300", house.state(300, 2), 0);
        dueStatus("state of 300", house, 1);
        due("every count of 300", house.every(COUNT, 1, 1), 299 * 8 + 29);
        due("ran() of 300", house.ran(), 300);
    }

    /** "5: there are 400". */
    private static void linksToTheFull() {
        LineOfKin house = houseOfMany(20, MUTE);
        for (int i = 0; i < 400; i++) {
            due("link " + i, house.link(i / 20, i % 20), i);
        }
        dueStatus("link 399", house, 0);
        due("link 400", house.link(0, 0), NONE);
        dueStatus("link 400", house, 5);
        due("link 400 from no device", house.link(20, 0), NONE);
        dueStatus("link 400 from no device", house, 1);
        due("link 400 to no device", house.link(0, -1), NONE);
        dueStatus("link 400 to no device", house, 1);
        due("link 400 again", house.link(19, 0), NONE);
        dueStatus("link 400 again", house, 5);
        due("size(1)", house.size(1), 400);
        for (int d = 0; d < 20; d++) {
            due("links from " + d, house.state(d, 3), 20);
            due("links to " + d, house.state(d, 4), 20);
        }
        due("a device where links are full", house.device(PUMP, 1), 20);
        dueStatus("a device where links are full", house, 0);
        due("pass through 400 links", house.pass(7, 1), 20);
        due("ran() of it", house.ran(), 40);
        due("chain(39) of it", house.chain(39), 160);
    }

    private static void lastOf400() {
        LineOfKin house = houseOf(MUTE, GAUGE, GAUGE);
        for (int i = 0; i < 399; i++) {
            house.link(0, 1);
        }
        due("link 399", house.link(0, 2), 399);
        due("pass", house.pass(0, 1), 3);
        due("taken behind the last link", house.state(2, 5), 1);
        due("taken behind the others", house.state(1, 5), 1);
        due("links to it", house.state(1, 4), 399);
        due("links from", house.state(0, 3), 400);
    }

    // ---- 512 calls: each of these objects has just so many

    private static void calls512OfCall() {
        LineOfKin house = houseOf(METER);
        for (int i = 1; i <= 510; i++) {
            due("count " + i, house.call(0, COUNT, i % 2 == 0 ? 0 : 5, -i), 6 * i);
        }
        due("the 512th call", house.state(0, 2), 510);
    }

    private static void calls512OfFeed() {
        LineOfKin house = houseOf(GAUGE);
        int c = 0;
        for (int i = 1; i <= 510; i++) {
            int sum = 0;
            for (int n = 0; n < 4; n++) {
                c++;
                sum += c * 7 + sum;
            }
            due("feed " + i, house.feed(0, 0x15556505), sum);
        }
        due("the 512th call", house.state(0, 2), 2040);
    }

    private static void calls512OfEvery() {
        LineOfKin house = houseOfMany(100, RELAY);
        for (int i = 1; i <= 411; i++) {
            due("every " + i, house.every(TURN, 1, 1), 100 * i);
        }
        due("the 512th call", house.ran(), 100);
    }

    private static void calls512OfPass() {
        LineOfKin house = houseOf(MUTE, METER, MUTE);
        house.link(0, 1);
        house.link(1, 2);
        house.link(2, 0);
        for (int i = 1; i <= 505; i++) {
            due("pass " + i, house.pass(i % 3, i), 3);
        }
        due("the 512th call", house.state(1, 5), 505);
    }

    private static void calls512OfDevice() {
        LineOfKin house = new LineOfKin();
        for (int i = 0; i < 511; i++) {
            due("device " + i, house.device(i % 11, i), i < 300 ? i : NONE);
        }
        due("the 512th call", house.size(0), 300);
        house = houseOfMany(300, LEDGER);
        for (int i = 0; i < 211; i++) {
            due("link " + i + " of 300", house.link(i, 299 - i), i);
        }
        due("the 512th call", house.state(299, 4), 1);
    }

    private static void calls512OfLink() {
        LineOfKin house = houseOf(LEDGER);
        for (int i = 0; i < 510; i++) {
            due("link " + i, house.link(0, 0), i < 400 ? i : NONE);
        }
        due("the 512th call", house.status(), 5);
    }

    private static void calls512OfQuestions() {
        LineOfKin house = houseOf(VALVE);
        house.call(0, REST, 1, 1);
        for (int i = 0; i < 85; i++) {
            due("able", house.able(0, i % 7), i % 7 < 2 || i % 7 == 3 ? 1 : 0);
            due("chain", house.chain(i), i == 0 ? 110 : i == 1 ? 61 : i == 2 ? 112 : NONE);
            due("ran", house.ran(), 3);
            due("size", house.size(3), 1);
            due("state", house.state(0, 1), -3);
            due("status", house.status(), 0);
        }
    }

    private static void calls512Refused() {
        LineOfKin house = new LineOfKin();
        for (int i = 0; i < 73; i++) {
            due("refused device", house.device(11 + i, i), NONE);
            due("refused call", house.call(i, WRITE, 1, i), 0);
            due("refused every", house.every(WRITE, 2, i), 0);
            due("refused feed", house.feed(i, i), 0);
            due("refused link", house.link(i, i), NONE);
            due("refused pass", house.pass(i, i), 0);
            due("refused state", house.state(i, 0), 0);
        }
        due("the 512th call", house.device(LEDGER, 1), 0);
    }

    /** The pulse that goes farthest within 512 calls: along a line, and out of one device. */
    private static void calls512AndAFarPulse() {
        LineOfKin house = houseOfMany(255, PUMP);
        for (int i = 0; i < 254; i++) {
            house.link(i, i + 1);
        }
        due("pass along a line", house.pass(0, 0), 255);
        due("ran() along a line", house.ran(), 510);
        due("the 512th call", house.state(254, 5), 1);
        house = houseOfMany(254, MUTE);
        house.device(VALVE, 0);
        for (int i = 1; i < 255; i++) {
            house.link(0, i);
        }
        due("pass out of one", house.pass(0, 1), 255);
        due("ran() out of one", house.ran(), 254 * 2 + 4);
        // add(1) is 2, and put(2) is of 2 and 3
        due("the 512th call", house.state(254, 1), 2 * 31 + 3);
    }

    /** "what later calls answer is free": but none throws, and each ends. */
    private static void callsBeyond512() {
        LineOfKin house = new LineOfKin();
        for (int i = 0; i < 310; i++) {
            house.device(i % 11, i * 1000003);
        }
        for (int i = 0; i < 410; i++) {
            house.link(i % 300, (i * 7 + 1) % 300);
        }
        int[] numbers = {MIN, -1, 0, 1, 5, 7, 10, 12, 63, 64, 299, 300, MAX};
        for (int one : numbers) {
            for (int other : numbers) {
                house.pass(one, other);
                house.feed(one, other * 0x01010101);
                house.state(one, other);
                house.able(one, other);
                house.device(one, other);
                house.link(one, other);
                for (int way : numbers) {
                    house.call(one, other, way, one);
                    house.every(other, way, one);
                }
            }
            house.chain(one);
            house.size(one);
        }
        house.ran();
        house.status();
    }

    public static void main(String[] args) {
        chainAround64();
        lastKeptIsInItsPlace();
        chainOfFeedBeyond64();
        chainOfPassBeyond64();
        chainBehindFullOne();
        ranOfVeryMany();
        devicesToTheFull();
        lastOf300();
        linksToTheFull();
        lastOf400();
        calls512OfCall();
        calls512OfFeed();
        calls512OfEvery();
        calls512OfPass();
        calls512OfDevice();
        calls512OfLink();
        calls512OfQuestions();
        calls512Refused();
        calls512AndAFarPulse();
        callsBeyond512();
        System.out.println(wrong == 0 ? "all answers are as due" : wrong + " answers are not as due");
        if (wrong != 0) {
            System.exit(1);
        }
    }
}
