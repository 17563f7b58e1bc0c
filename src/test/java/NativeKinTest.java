import java.util.ArrayList;
import java.util.List;

/**
 * Long runs of calls on LineOfKin beside a house whose types are Java's own interfaces and classes:
 * there the Java machine chooses the bodies, so that nothing of the tables is used twice.
 */
public final class NativeKinTest {
    private static final int NONE = -1;
    private static final int RUNS = 1500;
    private static final int CALLS = 512;

    private static int wrong = 0;
    private static long seed;

    // ---- the types, written as the document tells them

    interface Self {
        void began(int body);
    }

    interface Reads extends Self {
        int read(int x);

        default int peek(int x) {
            began(10);
            return read(x) + 1;
        }

        default int glance(int x) {
            began(11);
            return peek(x) * 3 - read(x + 1);
        }
    }

    interface Writes extends Self {
        int write(int x);

        default int put(int x) {
            began(20);
            return write(x) + write(x + 1);
        }

        default int glance(int x) {
            began(21);
            return put(x) ^ 85;
        }
    }

    interface Both extends Reads, Writes {
        @Override
        default int glance(int x) {
            began(30);
            return Reads.super.glance(x) + Writes.super.glance(x + 1);
        }
    }

    interface Counts extends Self {
        int count(int x);

        default int add(int x) {
            began(40);
            return count(x) + x;
        }

        default int tally(int x) {
            began(41);
            return add(x) * 2 + add(1);
        }
    }

    interface Logged extends Counts {
        @Override
        default int tally(int x) {
            began(50);
            return Counts.super.tally(x) - log(x);
        }

        default int log(int x) {
            began(51);
            return mark(x) + count(2);
        }

        private int mark(int x) {
            began(52);
            return count(x) * 5;
        }
    }

    abstract static class Root implements Self {
        final List<Root> linked = new ArrayList<>();
        List<Integer> chain;
        int kind;
        int v;
        int c;
        int incoming;
        int taken;

        @Override
        public void began(int body) {
            chain.add(body);
        }

        public int turn(int x) {
            began(60);
            v = v + x;
            return v;
        }

        public int rest(int x) {
            began(61);
            v = v - 3 * x;
            return v;
        }

        public int write(int x) {
            began(62);
            v = v * 31 + x;
            return v;
        }

        private int own(int x) {
            began(63);
            return v ^ x;
        }

        public int sum(int x) {
            began(64);
            return turn(x) + rest(1) + own(x);
        }
    }

    abstract static class Unit extends Root {
        public int count(int x) {
            began(70);
            c = c + 1;
            return c * 7 + x;
        }
    }

    static class Pump extends Unit implements Reads {
        @Override
        public int read(int x) {
            began(100);
            return v + x;
        }

        @Override
        public int turn(int x) {
            began(101);
            return super.turn(x + 2) + 1;
        }
    }

    static class Valve extends Unit implements Writes {
        @Override
        public int rest(int x) {
            began(110);
            return super.rest(x) * 2 + own(x);
        }

        @Override
        public int put(int x) {
            began(111);
            return Writes.super.put(x) - 1;
        }

        private int own(int x) {
            began(112);
            return c - x;
        }
    }

    static class Meter extends Unit implements Counts {
        @Override
        public int add(int x) {
            began(120);
            return count(x) * 3 + v;
        }
    }

    static class Fine extends Pump {
        @Override
        public int read(int x) {
            began(130);
            return super.read(x) * 3;
        }

        @Override
        public int peek(int x) {
            began(131);
            return super.peek(x + 1) + 5;
        }
    }

    static class Relay extends Valve implements Reads {
        @Override
        public int read(int x) {
            began(140);
            return v - x;
        }

        @Override
        public int glance(int x) {
            began(141);
            return super.glance(x) - Reads.super.glance(1);
        }

        @Override
        public int rest(int x) {
            began(142);
            return super.rest(x + 1) + 4;
        }
    }

    static class Twin extends Meter implements Both {
        @Override
        public int read(int x) {
            began(150);
            return count(x) + v;
        }

        @Override
        public int turn(int x) {
            began(151);
            return super.turn(x) ^ glance(0);
        }

        @Override
        public int put(int x) {
            began(152);
            return Both.super.put(x) + 1;
        }
    }

    static class Mute extends Unit implements Logged {
        @Override
        public int count(int x) {
            began(160);
            return x;
        }

        @Override
        public int log(int x) {
            began(161);
            return Logged.super.log(x) & 255;
        }

        private int mark(int x) {
            began(162);
            return x + 99;
        }

        @Override
        public int turn(int x) {
            began(163);
            return mark(x) + super.turn(1);
        }
    }

    static class Gauge extends Meter implements Logged {
    }

    static class Boost extends Fine {
        @Override
        public int turn(int x) {
            began(180);
            return super.turn(x) - 1;
        }

        @Override
        public int glance(int x) {
            began(181);
            return super.glance(x) + peek(2);
        }
    }

    static class Siphon extends Valve implements Both {
        @Override
        public int read(int x) {
            began(190);
            return rest(x) * 2;
        }
    }

    static class Ledger extends Relay implements Logged, Both {
        private int mark(int x) {
            began(200);
            return c + x;
        }

        @Override
        public int tally(int x) {
            began(201);
            return Logged.super.tally(x) + mark(x);
        }

        @Override
        public int glance(int x) {
            began(202);
            return Both.super.glance(x) + super.glance(x);
        }

        @Override
        public int count(int x) {
            began(204);
            return super.count(x) + 1;
        }
    }

    // ---- the house

    static final class House {
        final List<Root> devices = new ArrayList<>();
        List<Integer> chain = new ArrayList<>();
        int links;
        int status;

        private static Root madeOf(int kind) {
            switch (kind) {
                case 0: return new Pump();
                case 1: return new Valve();
                case 2: return new Meter();
                case 3: return new Fine();
                case 4: return new Relay();
                case 5: return new Twin();
                case 6: return new Mute();
                case 7: return new Gauge();
                case 8: return new Boost();
                case 9: return new Siphon();
                case 10: return new Ledger();
                default: return null;
            }
        }

        private static boolean bears(Root device, int way) {
            switch (way) {
                case 0: return true;
                case 1: return device instanceof Unit;
                case 2: return device instanceof Reads;
                case 3: return device instanceof Writes;
                case 4: return device instanceof Both;
                case 5: return device instanceof Counts;
                case 6: return device instanceof Logged;
                default: return false;
            }
        }

        private static boolean wayHas(int way, int act) {
            String[] acts = {"", "3 5 9 10 11", "0 1 2", "3 4 2", "0 1 2 3 4", "5 6 7", "5 6 7 8"};
            return (" " + acts[way] + " ").contains(" " + act + " ");
        }

        private static boolean kindHas(Root device, int act) {
            for (int way = 1; way < 7; way++) {
                if (bears(device, way) && wayHas(way, act)) {
                    return true;
                }
            }
            return false;
        }

        private boolean isDevice(int d) {
            return d >= 0 && d < devices.size();
        }

        private int refuse(int why, int answer) {
            status = why;
            return answer;
        }

        private void newChain() {
            status = 0;
            chain = new ArrayList<>();
        }

        private int run(Root device, int act, int x) {
            device.chain = chain;
            switch (act) {
                case 0: return ((Reads) device).read(x);
                case 1: return ((Reads) device).peek(x);
                case 2: return device instanceof Reads reads ? reads.glance(x)
                        : ((Writes) device).glance(x);
                case 3: return device.write(x);
                case 4: return ((Writes) device).put(x);
                case 5: return ((Unit) device).count(x);
                case 6: return ((Counts) device).add(x);
                case 7: return ((Counts) device).tally(x);
                case 8: return ((Logged) device).log(x);
                case 9: return device.turn(x);
                case 10: return device.rest(x);
                default: return device.sum(x);
            }
        }

        private int whyNot(int d, int act, int way) {
            if (!isDevice(d) || act < 0 || act > 11 || way < 0 || way > 6) {
                return 1;
            }
            Root device = devices.get(d);
            if (!bears(device, way)) {
                return 2;
            }
            return (way == 0 ? kindHas(device, act) : wayHas(way, act)) ? 0 : 3;
        }

        int device(int kind, int v) {
            Root made = madeOf(kind);
            if (made == null) {
                return refuse(1, NONE);
            }
            if (devices.size() == 300) {
                return refuse(5, NONE);
            }
            made.kind = kind;
            made.v = v;
            devices.add(made);
            return refuse(0, devices.size() - 1);
        }

        int call(int d, int act, int way, int x) {
            int why = whyNot(d, act, way);
            if (why != 0) {
                return refuse(why, 0);
            }
            newChain();
            return run(devices.get(d), act, x);
        }

        int every(int act, int way, int x) {
            if (act < 0 || act > 11 || way < 0 || way > 6) {
                return refuse(1, 0);
            }
            if (way != 0 && !wayHas(way, act)) {
                return refuse(3, 0);
            }
            newChain();
            int sum = 0;
            for (int d = 0; d < devices.size(); d++) {
                if (whyNot(d, act, way) == 0) {
                    sum += run(devices.get(d), act, x);
                }
            }
            return sum;
        }

        int feed(int d, int bytes) {
            if (!isDevice(d)) {
                return refuse(1, 0);
            }
            newChain();
            int sum = 0;
            int[] row = {bytes >>> 24, bytes >>> 16 & 255, bytes >>> 8 & 255, bytes & 255};
            for (int one : row) {
                int act = one % 16;
                int way = one / 16 % 8;
                if (whyNot(d, act, way) == 0) {
                    sum += run(devices.get(d), act, one < 128 ? sum : -sum);
                }
            }
            return sum;
        }

        int link(int a, int b) {
            if (!isDevice(a) || !isDevice(b)) {
                return refuse(1, NONE);
            }
            if (links == 400) {
                return refuse(5, NONE);
            }
            devices.get(a).linked.add(devices.get(b));
            devices.get(b).incoming++;
            links++;
            return refuse(0, links - 1);
        }

        private int take(Root device, int x) {
            device.taken++;
            if (device instanceof Writes) {
                return run(device, 4, x);
            }
            return run(device, device instanceof Reads ? 1 : 6, x);
        }

        int pass(int d, int x) {
            if (!isDevice(d)) {
                return refuse(1, 0);
            }
            newChain();
            List<Root> took = new ArrayList<>();
            List<Integer> answers = new ArrayList<>();
            took.add(devices.get(d));
            answers.add(take(devices.get(d), x));
            for (int i = 0; i < took.size(); i++) {
                for (Root to : took.get(i).linked) {
                    if (!took.contains(to)) {
                        took.add(to);
                        answers.add(take(to, answers.get(i)));
                    }
                }
            }
            return took.size();
        }

        int able(int d, int way) {
            if (!isDevice(d) || way < 0 || way > 6) {
                return NONE;
            }
            return bears(devices.get(d), way) ? 1 : 0;
        }

        int chain(int i) {
            return i >= 0 && i < Math.min(64, chain.size()) ? chain.get(i) : NONE;
        }

        int state(int d, int what) {
            if (!isDevice(d) || what < 0 || what > 5) {
                return refuse(1, 0);
            }
            status = 0;
            Root device = devices.get(d);
            int[] all = {device.kind, device.v, device.c, device.linked.size(), device.incoming,
                device.taken};
            return all[what];
        }

        int size(int what) {
            if (what < 0 || what > 6) {
                return NONE;
            }
            if (what < 2) {
                return what == 0 ? devices.size() : links;
            }
            int bearers = 0;
            for (Root device : devices) {
                bearers += bears(device, what) ? 1 : 0;
            }
            return bearers;
        }
    }

    // ---- the runs

    private static int next(int below) {
        seed = seed * 6364136223846793005L + 1442695040888963407L;
        return (int) ((seed >>> 33) % below);
    }

    private static int someX() {
        switch (next(8)) {
            case 0: return Integer.MAX_VALUE - next(3);
            case 1: return Integer.MIN_VALUE + next(3);
            case 2: return next(Integer.MAX_VALUE) * (next(2) * 2 - 1);
            default: return next(41) - 20;
        }
    }

    /** Mostly a number below a bound, now and then one that there is not. */
    private static int numberBelow(int bound) {
        switch (next(40)) {
            case 0: return bound;
            case 1: return -1 - next(3);
            case 2: return someX();
            default: return next(Math.max(1, bound));
        }
    }

    private static int someByte() {
        int way = next(12) == 0 ? 7 : next(7);
        int act = next(12) == 0 ? 12 + next(4) : next(12);
        return next(2) << 7 | way << 4 | act;
    }

    private static int someBytes() {
        return someByte() << 24 | someByte() << 16 | someByte() << 8 | someByte();
    }

    private static void due(int run, int n, String what, int got, int want) {
        if (got != want && wrong++ < 20) {
            System.out.println("run " + run + ", call " + n + ": " + what + " answered " + got
                    + ", due is " + want);
        }
    }

    /** One call on both; of the calls that change something, the share differs from run to run. */
    private static void oneCall(int run, int n, LineOfKin real, House house) {
        int devices = house.devices.size();
        int a = numberBelow(devices);
        int b = numberBelow(devices);
        int act = numberBelow(12);
        int way = numberBelow(7);
        int x = someX();
        int pick = next(100);
        int making = run % 3 == 0 ? 70 : run % 3 == 1 ? 25 : 6;
        if (devices == 0 || pick < making) {
            if (devices == 0 || next(5) < 2) {
                int kind = run % 7 == 0 ? 10 : numberBelow(11);
                due(run, n, "device " + kind, real.device(kind, x), house.device(kind, x));
            } else {
                due(run, n, "link " + a + " " + b, real.link(a, b), house.link(a, b));
            }
            return;
        }
        String told = a + " " + act + " " + way + " " + x;
        switch (next(12)) {
            case 0: case 1: case 2:
                due(run, n, "call " + told, real.call(a, act, way, x), house.call(a, act, way, x));
                break;
            case 3:
                due(run, n, "every " + told, real.every(act, way, x), house.every(act, way, x));
                break;
            case 4:
                int bytes = someBytes();
                due(run, n, "feed " + a + " " + bytes, real.feed(a, bytes), house.feed(a, bytes));
                break;
            case 5:
                due(run, n, "pass " + a + " " + x, real.pass(a, x), house.pass(a, x));
                break;
            case 6:
                due(run, n, "able " + a + " " + way, real.able(a, way), house.able(a, way));
                break;
            case 7: case 8:
                int place = numberBelow(Math.max(1, Math.min(64, house.chain.size())));
                due(run, n, "chain " + place, real.chain(place), house.chain(place));
                break;
            case 9:
                int what = numberBelow(6);
                due(run, n, "state " + a + " " + what, real.state(a, what), house.state(a, what));
                break;
            case 10:
                due(run, n, "size " + way, real.size(way), house.size(way));
                break;
            default:
                due(run, n, "ran", real.ran(), house.chain.size());
        }
    }

    private static void oneRun(int run) {
        LineOfKin real = new LineOfKin();
        House house = new House();
        seed = 1000003L * run + 17;
        for (int n = 0; n < CALLS - 1; n += 2) {
            oneCall(run, n, real, house);
            due(run, n + 1, "status", real.status(), house.status);
        }
    }

    /** A big house with many links, so that pulses go far; kept below the 512 calls of an object. */
    private static void bigHouse(int run) {
        LineOfKin real = new LineOfKin();
        House house = new House();
        seed = 77L * run + 5;
        int most = run % 2 == 0 ? 250 : 150;
        int links = 400 - most;
        for (int i = 0; i < most; i++) {
            int kind = run % 12 == 11 ? next(11) : run % 12;
            int v = someX();
            due(run, i, "device", real.device(kind, v), house.device(kind, v));
        }
        for (int i = 0; i < links; i++) {
            int a = next(3) == 0 ? next(most) : i * most / links;
            int b = next(most);
            due(run, i, "link", real.link(a, b), house.link(a, b));
        }
        for (int round = 0; round < 4; round++) {
            due(run, round, "pass", real.pass(0, round), house.pass(0, round));
            due(run, round, "ran after pass", real.ran(), house.chain.size());
            int act = next(12);
            due(run, round, "every " + act, real.every(act, 0, round), house.every(act, 0, round));
            due(run, round, "ran after every", real.ran(), house.chain.size());
            for (int i = 60; i < 66; i++) {
                due(run, round, "chain " + i, real.chain(i), house.chain(i));
            }
        }
        for (int i = 0; i < 60; i++) {
            int d = next(most);
            int what = next(6);
            due(run, d, "state " + what, real.state(d, what), house.state(d, what));
        }
    }

    public static void main(String[] args) {
        for (int run = 0; run < RUNS; run++) {
            oneRun(run);
        }
        for (int run = 0; run < 48; run++) {
            bigHouse(run);
        }
        System.out.println(wrong == 0 ? "all answers are as due" : wrong + " answers are not as due");
        if (wrong != 0) {
            System.exit(1);
        }
    }
}
