/**
 * "STATUS ... else the first of these that holds, and nothing is changed but the STATUS." Each call
 * that is refused, with its answer and its STATUS, beside a house that was not asked: all that can
 * be seen of both is the same, then and after later calls.
 */
public final class RefusalTest {
    private static final int NONE = -1;
    private static final int MAX = Integer.MAX_VALUE;
    private static final int MIN = Integer.MIN_VALUE;
    private static final int READ = 0;
    private static final int GLANCE = 2;
    private static final int PUT = 4;
    private static final int COUNT = 5;
    private static final int ADD = 6;
    private static final int LOG = 8;
    private static final int TURN = 9;
    private static final int PUMP = 0;
    private static final int VALVE = 1;
    private static final int MUTE = 6;
    private static final int GAUGE = 7;
    private static final int LEDGER = 10;

    /** No number of a device where there are five. */
    private static final int[] NO_DEVICE = {-1, 5, -5, 6, 32, 299, 300, 65536, MIN, MIN + 1, MAX};
    private static final int[] NO_KIND = {-1, 11, -11, 12, 32, 43, MIN, MAX};
    private static final int[] NO_ACT = {-1, 12, 13, 32, 41, 64, -32, MIN, MAX};
    private static final int[] NO_WAY = {-1, 7, 8, 32, 34, 64, -32, MIN, MAX};
    private static final int[] NO_WHAT = {-1, 6, 7, 32, MIN, MAX};

    private static int wrong = 0;

    interface Asked {
        int of(LineOfKin house);
    }

    private static void due(String what, long got, long want) {
        if (got != want) {
            wrong++;
            if (wrong <= 100) {
                System.out.println(what + " answered " + got + ", due is " + want);
            }
        }
    }

    // ---- houses, and all that can be seen of them

    /** Five devices, five links, and a chain of a pulse. */
    private static LineOfKin made() {
        LineOfKin house = new LineOfKin();
        house.device(PUMP, 10);
        house.device(VALVE, -20);
        house.device(GAUGE, 30);
        house.device(LEDGER, MAX);
        house.device(MUTE, 0);
        house.link(0, 1);
        house.link(0, 0);
        house.link(1, 3);
        house.link(1, 3);
        house.link(3, 2);
        house.call(3, COUNT, 0, 5);
        house.pass(0, 7);
        return house;
    }

    /** Leaves a STATUS behind without a change of anything else. */
    private static void leaveStatus(LineOfKin house, int status) {
        switch (status) {
            case 0: house.state(0, 0); break;
            case 1: house.state(-1, 0); break;
            case 2: house.call(0, PUT, 3, 0); break;
            default: house.call(0, READ, 1, 0); break;
        }
        due("the STATUS left", house.status(), status);
    }

    private static void dueSameChain(String what, LineOfKin got, LineOfKin want, int most) {
        due(what + ": ran()", got.ran(), want.ran());
        for (int i = -1; i <= most; i++) {
            due(what + ": chain(" + i + ")", got.chain(i), want.chain(i));
        }
    }

    private static void dueSameDevice(String what, LineOfKin got, LineOfKin want, int d) {
        for (int number = 0; number < 6; number++) {
            due(what + ": state(" + d + ", " + number + ")",
                    got.state(d, number), want.state(d, number));
        }
    }

    private static void dueSame(String what, LineOfKin got, LineOfKin want) {
        dueSameChain(what, got, want, 20);
        for (int number = -1; number <= 7; number++) {
            due(what + ": size(" + number + ")", got.size(number), want.size(number));
        }
        for (int d = 0; d < 6; d++) {
            dueSameDevice(what, got, want, d);
            for (int way = 0; way < 7; way++) {
                due(what + ": able(" + d + ", " + way + ")", got.able(d, way), want.able(d, way));
            }
        }
    }

    /** What is hidden in a house comes out when more is done with it. */
    private static void doMore(String what, LineOfKin got, LineOfKin want) {
        due(what + ": pass after it", got.pass(0, 1), want.pass(0, 1));
        dueSameChain(what + ": pass after it", got, want, 40);
        due(what + ": device after it", got.device(GAUGE, 9), want.device(GAUGE, 9));
        due(what + ": link after it", got.link(2, 5), want.link(2, 5));
        due(what + ": feed after it", got.feed(3, 0x15262791), want.feed(3, 0x15262791));
        due(what + ": every after it", got.every(TURN, 1, 3), want.every(TURN, 1, 3));
        due(what + ": pass from the new", got.pass(5, 1), want.pass(5, 1));
        due(what + ": pass to the new", got.pass(1, 2), want.pass(1, 2));
        dueSame(what + ", and more done", got, want);
    }

    private static void dueRefused(String what, Asked asked, int answer, int status) {
        for (int before = 0; before < 4; before++) {
            String told = what + " after STATUS " + before;
            LineOfKin house = made();
            LineOfKin other = made();
            leaveStatus(house, before);
            due(told, asked.of(house), answer);
            due("status() after " + told, house.status(), status);
            dueSame(told, house, other);
            doMore(told, house, other);
        }
    }

    // ---- promise 2

    /** "NONE: STATUS 1": there is no such KIND. */
    private static void deviceOfNoKind() {
        for (int kind : NO_KIND) {
            dueRefused("device(" + kind + ", 3)", h -> h.device(kind, 3), NONE, 1);
            dueRefused("device(" + kind + ", MIN)", h -> h.device(kind, MIN), NONE, 1);
        }
    }

    private static LineOfKin fullOfDevices() {
        LineOfKin house = new LineOfKin();
        for (int i = 0; i < 300; i++) {
            house.device(i % 11, i);
        }
        house.link(0, 299);
        house.pass(0, 7);
        return house;
    }

    private static void dueRefusedByFull(int kind, int status) {
        String told = "device(" + kind + ", 1) where there are 300";
        LineOfKin house = fullOfDevices();
        LineOfKin other = fullOfDevices();
        due(told, house.device(kind, 1), NONE);
        due("status() after " + told, house.status(), status);
        dueSameChain(told, house, other, 10);
        for (int number = 0; number <= 6; number++) {
            due(told + ": size(" + number + ")", house.size(number), other.size(number));
        }
        for (int d : new int[] {0, 1, 298, 299, 300}) {
            dueSameDevice(told, house, other, d);
            due(told + ": able(" + d + ", 0)", house.able(d, 0), other.able(d, 0));
        }
        due(told + ": pass after it", house.pass(0, 7), other.pass(0, 7));
        due(told + ": every after it", house.every(TURN, 0, 1), other.every(TURN, 0, 1));
        due(told + ": link to the new", house.link(0, 300), NONE);
        due("status() after link to the new", house.status(), 1);
        dueSameDevice(told + ", and more done", house, other, 0);
        dueSameDevice(told + ", and more done", house, other, 299);
    }

    /** "or 5: there are 300"; "the first of these that holds". */
    private static void deviceWithoutRoom() {
        dueRefusedByFull(PUMP, 5);
        dueRefusedByFull(LEDGER, 5);
        dueRefusedByFull(11, 1);
        dueRefusedByFull(-1, 1);
    }

    // ---- promise 3

    private static void dueCallRefused(int d, int act, int way, int status) {
        String told = "call(" + d + ", " + act + ", " + way + ", 5)";
        dueRefused(told, h -> h.call(d, act, way, 5), 0, status);
    }

    /** "0: STATUS 1": there is no such device, act or way. */
    private static void callOfNoNumber() {
        for (int d : NO_DEVICE) {
            dueCallRefused(d, COUNT, 1, 1);
        }
        for (int act : NO_ACT) {
            dueCallRefused(0, act, 0, 1);
            dueCallRefused(3, act, 2, 1);
        }
        for (int way : NO_WAY) {
            dueCallRefused(3, COUNT, way, 1);
        }
    }

    /** "0: STATUS 2": the device does not BEAR the way. */
    private static void callByWayNotBorne() {
        dueCallRefused(0, PUT, 3, 2);
        dueCallRefused(0, READ, 4, 2);
        dueCallRefused(0, COUNT, 5, 2);
        dueCallRefused(1, READ, 2, 2);
        dueCallRefused(1, PUT, 4, 2);
        dueCallRefused(2, READ, 2, 2);
        dueCallRefused(4, READ, 2, 2);
        dueCallRefused(1, LOG, 6, 2);
    }

    /** "0: STATUS 3": the way does not have the act. */
    private static void callOfActNotOfWay() {
        dueCallRefused(0, PUT, 0, 3);
        dueCallRefused(0, READ, 1, 3);
        dueCallRefused(0, COUNT, 2, 3);
        dueCallRefused(1, TURN, 3, 3);
        dueCallRefused(3, COUNT, 4, 3);
        dueCallRefused(2, LOG, 5, 3);
        dueCallRefused(2, TURN, 6, 3);
        dueCallRefused(4, READ, 0, 3);
    }

    /** "the first of these that holds": 1 before 2 and 3, 2 before 3. */
    private static void firstStatusOfCall() {
        dueCallRefused(5, PUT, 3, 1);
        dueCallRefused(-1, READ, 1, 1);
        dueCallRefused(0, 12, 3, 1);
        dueCallRefused(0, -1, 6, 1);
        dueCallRefused(-1, 12, 7, 1);
        dueCallRefused(0, TURN, 3, 2);
        dueCallRefused(0, READ, 5, 2);
        dueCallRefused(1, COUNT, 2, 2);
    }

    // ---- promise 4

    private static void dueEveryRefused(int act, int way, int status) {
        dueRefused("every(" + act + ", " + way + ", 5)", h -> h.every(act, way, 5), 0, status);
    }

    /** "0: STATUS 1": there is no such act or way, whether the way would have the act or not. */
    private static void everyOfNoNumber() {
        for (int act : NO_ACT) {
            dueEveryRefused(act, 0, 1);
            dueEveryRefused(act, 2, 1);
        }
        for (int way : NO_WAY) {
            dueEveryRefused(READ, way, 1);
            dueEveryRefused(COUNT, way, 1);
        }
        dueEveryRefused(12, 7, 1);
        dueEveryRefused(-1, -1, 1);
    }

    /** "3 (not of way 0)". */
    private static void everyOfActNotOfWay() {
        dueEveryRefused(READ, 1, 3);
        dueEveryRefused(COUNT, 2, 3);
        dueEveryRefused(READ, 3, 3);
        dueEveryRefused(ADD, 4, 3);
        dueEveryRefused(LOG, 5, 3);
        dueEveryRefused(GLANCE, 6, 3);
        LineOfKin house = made();
        due("every(8, 0, 5), which a GAUGE has", house.every(LOG, 0, 5) != 0 ? 1 : 0, 1);
        due("status() after every by way 0", house.status(), 0);
    }

    // ---- promises 5, 6, 7, 11

    /** "0: STATUS 1 (no such device)". */
    private static void feedOfNoDevice() {
        for (int d : NO_DEVICE) {
            dueRefused("feed(" + d + ", 0x15151515)", h -> h.feed(d, 0x15151515), 0, 1);
            dueRefused("feed(" + d + ", -1)", h -> h.feed(d, -1), 0, 1);
        }
    }

    /** "NONE: STATUS 1": of the one end, of the other, of both. */
    private static void linkOfNoDevice() {
        for (int d : NO_DEVICE) {
            dueRefused("link(" + d + ", 0)", h -> h.link(d, 0), NONE, 1);
            dueRefused("link(0, " + d + ")", h -> h.link(0, d), NONE, 1);
            dueRefused("link(" + d + ", " + d + ")", h -> h.link(d, d), NONE, 1);
        }
    }

    private static LineOfKin fullOfLinks() {
        LineOfKin house = new LineOfKin();
        house.device(PUMP, 3);
        house.device(VALVE, 4);
        house.device(GAUGE, 5);
        for (int i = 0; i < 400; i++) {
            house.link(i % 2, i % 2);
        }
        house.pass(0, 7);
        return house;
    }

    private static void dueRefusedByFull(int a, int b, int status) {
        String told = "link(" + a + ", " + b + ") where there are 400";
        LineOfKin house = fullOfLinks();
        LineOfKin other = fullOfLinks();
        due(told, house.link(a, b), NONE);
        due("status() after " + told, house.status(), status);
        dueSameChain(told, house, other, 3);
        for (int number = 0; number <= 6; number++) {
            due(told + ": size(" + number + ")", house.size(number), other.size(number));
        }
        for (int d = 0; d < 4; d++) {
            dueSameDevice(told, house, other, d);
        }
        due(told + ": pass after it", house.pass(0, 1), 1);
        due(told + ": pass of the other side", other.pass(0, 1), 1);
        dueSameDevice(told + ", and a pulse", house, other, 0);
        dueSameDevice(told + ", and a pulse", house, other, 1);
    }

    /** "or 5: there are 400"; "the first of these that holds". */
    private static void linkWithoutRoom() {
        dueRefusedByFull(0, 1, 5);
        dueRefusedByFull(0, 0, 5);
        dueRefusedByFull(0, 2, 5);
        dueRefusedByFull(0, 3, 1);
        dueRefusedByFull(-1, 0, 1);
    }

    /** "0: STATUS 1". */
    private static void passOfNoDevice() {
        for (int d : NO_DEVICE) {
            dueRefused("pass(" + d + ", 3)", h -> h.pass(d, 3), 0, 1);
        }
    }

    /** "0: STATUS 1": of no such device, of no such what, of neither. */
    private static void stateOfNoNumber() {
        for (int d : NO_DEVICE) {
            for (int what = 0; what < 6; what += 5) {
                int number = what;
                dueRefused("state(" + d + ", " + what + ")", h -> h.state(d, number), 0, 1);
            }
        }
        for (int what : NO_WHAT) {
            dueRefused("state(3, " + what + ")", h -> h.state(3, what), 0, 1);
            dueRefused("state(5, " + what + ")", h -> h.state(5, what), 0, 1);
        }
    }

    // ---- promises 8, 9, 12: what has no STATUS changes none

    private static void dueUnchanged(String what, Asked asked, int answer) {
        for (int before = 0; before < 4; before++) {
            String told = what + " after STATUS " + before;
            LineOfKin house = made();
            LineOfKin other = made();
            leaveStatus(house, before);
            due(told, asked.of(house), answer);
            due("status() after " + told, house.status(), before);
            dueSame(told, house, other);
            doMore(told, house, other);
        }
    }

    private static void askedForWhatThereIsNot() {
        for (int d : NO_DEVICE) {
            dueUnchanged("able(" + d + ", 0)", h -> h.able(d, 0), NONE);
        }
        for (int way : NO_WAY) {
            dueUnchanged("able(3, " + way + ")", h -> h.able(3, way), NONE);
            dueUnchanged("able(5, " + way + ")", h -> h.able(5, way), NONE);
            dueUnchanged("size(" + way + ")", h -> h.size(way), NONE);
        }
        for (int i : new int[] {-1, -2, MIN, MAX, 64, 65}) {
            dueUnchanged("chain(" + i + ")", h -> h.chain(i), NONE);
        }
    }

    private static void askedForWhatThereIs() {
        dueUnchanged("able(0, 2)", h -> h.able(0, 2), 1);
        dueUnchanged("able(0, 3)", h -> h.able(0, 3), 0);
        dueUnchanged("chain(0)", h -> h.chain(0), 10);
        dueUnchanged("size(0)", h -> h.size(0), 5);
        dueUnchanged("size(1)", h -> h.size(1), 5);
        dueUnchanged("size(6)", h -> h.size(6), 3);
        // peek of the PUMP, put of the VALVE and of the LEDGER, add of the GAUGE
        dueUnchanged("ran()", LineOfKin::ran, 2 + 4 + 4 + 2);
    }

    /** Nothing is kept of the refused calls, however many there are. */
    private static void manyRefused() {
        LineOfKin house = made();
        LineOfKin other = made();
        for (int i = 0; i < 20; i++) {
            due("device", house.device(11 + i, 0), NONE);
            due("link", house.link(0, 5 + i), NONE);
            due("call of no device", house.call(5 + i, COUNT, 1, 1), 0);
            due("call by a way not borne", house.call(0, PUT, 3, i), 0);
            due("call of an act not of the way", house.call(1, COUNT, 3, i), 0);
            due("every", house.every(LOG, 5, i), 0);
            due("feed", house.feed(-1 - i, 0x15151515), 0);
            due("pass", house.pass(-1 - i, 0), 0);
            due("state", house.state(i % 5, 6 + i), 0);
        }
        due("status() after many", house.status(), 1);
        dueSame("many refused calls", house, other);
        due("pass after many", house.pass(0, 1), other.pass(0, 1));
        due("device after many", house.device(PUMP, 0), 5);
        due("link after many", house.link(5, 5), 5);
    }

    public static void main(String[] args) {
        deviceOfNoKind();
        deviceWithoutRoom();
        callOfNoNumber();
        callByWayNotBorne();
        callOfActNotOfWay();
        firstStatusOfCall();
        everyOfNoNumber();
        everyOfActNotOfWay();
        feedOfNoDevice();
        linkOfNoDevice();
        linkWithoutRoom();
        passOfNoDevice();
        stateOfNoNumber();
        askedForWhatThereIsNot();
        askedForWhatThereIs();
        manyRefused();
        System.out.println(wrong == 0 ? "all answers are as due" : wrong + " answers are not as due");
        if (wrong != 0) {
            System.exit(1);
        }
    }
}
