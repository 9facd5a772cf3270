/**
 * For each sentence of the promises that names a boundary (least, most, too small, too large, empty, full, a
 * refused call), a test of its own. A refused call must leave all as it was: so it is refused again, and a
 * twin of the bench, without that call, must answer alike afterwards.
 */
public final class BoundariesTest {
    private static final int LEAST = Integer.MIN_VALUE;
    private static final int MOST = Integer.MAX_VALUE;

    private static final Checks CHECK = new Checks("BoundariesTest");

    interface Maker {
        ChainBench make();
    }

    interface Action {
        void on(ChainBench x);
    }

    public static void main(String[] args) {
        newObject();
        device();
        deviceRefused();
        net();
        netRefused();
        fault();
        core();
        clockAndState();
        look();
        value();
        findAndFound();
        testAndSaw();
        clocks();
        CHECK.end();
    }

    private static void dueRefused(String call, Class<? extends RuntimeException> want, Maker maker, Action action) {
        ChainBench x = maker.make();
        ChainBench twin = maker.make();
        CHECK.dueThrow(call, want, () -> action.on(x));
        CHECK.dueThrow(call + " again", want, () -> action.on(x));
        String changed = Hand.difference(Hand.everythingAndAfter(x), Hand.everythingAndAfter(twin));
        CHECK.dueText(call + ": what changed by it", changed, "");
    }

    // Promise 1

    private static void newObject() {
        CHECK.sentence("P1: no devices", BoundariesTest::noDevices);
        CHECK.sentence("P1: no nets", BoundariesTest::noNets);
        CHECK.sentence("P1: objects have nothing in common", BoundariesTest::apart);
    }

    private static void noDevices() {
        ChainBench x = new ChainBench();
        CHECK.due("state", x.state(), 0);
        CHECK.due("clocks", x.clocks(), 0);
        CHECK.dueThrow("look", Checks.ARGUMENT, () -> x.look(0, 0));
        CHECK.dueThrow("core", Checks.ARGUMENT, () -> x.core(0, 0, true));
        CHECK.dueThrow("net", Checks.ARGUMENT, () -> x.net(0, 0, 0, 1));
        CHECK.dueThrow("clock", Checks.STATE, () -> x.clock(true, true));
        CHECK.dueThrow("find", Checks.STATE, () -> x.find());
        CHECK.dueThrow("found", Checks.INDEX, () -> x.found(0));
        CHECK.due("the first device", x.device(2, 1, 1, 1), 0);
    }

    private static void noNets() {
        ChainBench x = new ChainBench();
        CHECK.dueThrow("value", Checks.ARGUMENT, () -> x.value(0));
        CHECK.dueThrow("fault", Checks.ARGUMENT, () -> x.fault(0, -1, 0));
        CHECK.dueThrow("test", Checks.STATE, () -> x.test());
        CHECK.dueThrow("saw", Checks.INDEX, () -> x.saw(0));
        x.device(2, 1, 2, 1);
        CHECK.dueThrow("value with a device", Checks.ARGUMENT, () -> x.value(0));
        CHECK.due("the first net", x.net(0, 0, 0, 1), 0);
    }

    private static void apart() {
        ChainBench before = new ChainBench();
        String fresh = Hand.everything(new ChainBench());
        Benches.busy();
        Benches.full();
        CHECK.dueText("an older one", Hand.difference(Hand.everything(before), fresh), "");
        CHECK.dueText("a newer one", Hand.difference(Hand.everything(new ChainBench()), fresh), "");
    }

    // Promise 2

    private static void device() {
        CHECK.sentence("P2: one more, at the end of the chain: its number", BoundariesTest::deviceAtTheEnd);
        CHECK.sentence("P2: cell k is a driver when bit k of drivers is 1", BoundariesTest::driversOfDevice);
        CHECK.sentence("P2: all devices are in RESET then", BoundariesTest::allInReset);
        CHECK.sentence("P2: all latches 0", BoundariesTest::allLatchesZero);
        CHECK.sentence("P2: all core bits 0", BoundariesTest::allCoresZero);
        CHECK.sentence("P2: bits 2 .. 4", () -> dueTaken(new int[] {2, 3, 4}, new int[] {1}, new int[] {1}));
        CHECK.sentence("P2: cells 1 .. 6", () -> dueTaken(new int[] {2}, new int[] {1}, new int[] {1, 2, 3, 4, 5, 6}));
        CHECK.sentence("P2: identity odd, not all ones",
            () -> dueTaken(new int[] {2}, new int[] {1, 3, MOST, LEAST + 1, -3}, new int[] {1}));
    }

    private static void deviceAtTheEnd() {
        ChainBench x = new ChainBench();
        StringBuilder due = new StringBuilder();
        for (int d = 0; d < 4; d++) {
            int identity = 0x1111_0001 * (d + 1) | 1;
            CHECK.due("number", x.device(2, identity, 1, 1), d);
            due.insert(0, Hand.bits(identity, 32));
            Hand.go(x, "0");
            CHECK.dueText("the last comes first", Hand.scanD(x, "0".repeat(due.length())), due.toString());
        }
    }

    private static void driversOfDevice() {
        int[] masks = {0, 1, 2, 4, 0b101, 0b111, -1, -2, LEAST, MOST, 8, 0b1010, 64, ~7};
        for (int cells = 1; cells <= 6; cells++) {
            for (int drivers : masks) {
                ChainBench x = new ChainBench();
                x.device(2, 1, cells, drivers);
                int driving = 0;
                for (int c = 0; c < 8; c++) {
                    int cell = c;
                    driving |= Checks.thrownBy(() -> x.core(0, cell, true)).equals(Checks.NOTHING_THROWN) ? 1 << c : 0;
                }
                CHECK.due("drivers " + drivers + " of " + cells, driving, drivers & (1 << cells) - 1);
                CHECK.due("their outputs", x.look(0, 3), drivers & (1 << cells) - 1);
            }
        }
    }

    private static void allInReset() {
        for (int s = 0; s < 16; s++) {
            ChainBench x = Benches.instructed(3, 2, 5, 2, 0b11);
            Hand.go(x, s == 0 ? "111" : Hand.WAYS[s].substring(1));
            CHECK.due("the state before", x.state(), s);
            x.device(2, 7, 1, 1);
            CHECK.due("the state after " + s, x.state(), 0);
            CHECK.due("the instruction of the older one", x.look(0, 0), 1);
            CHECK.due("the instruction of the new one", x.look(1, 0), 1);
            Hand.go(x, "0");
            CHECK.due("the next state", x.state(), 1);
            String due = Hand.bits(7, 32) + Hand.bits(5, 32);
            CHECK.dueText("both identities", Hand.scanD(x, "0".repeat(64)), due);
        }
    }

    private static void allLatchesZero() {
        ChainBench x = Benches.instructed(3, 0, 5, 2, 0b11);
        Hand.scanD(x, "11");
        CHECK.due("before", x.look(0, 2), 0b11);
        x.device(2, 7, 3, 0b111);
        CHECK.due("of the older one", x.look(0, 2), 0);
        CHECK.due("of the new one", x.look(1, 2), 0);
        Hand.go(x, "0");
        Hand.scanI(x, "00000");
        CHECK.due("driven by the older one", x.look(0, 3), 0);
        CHECK.due("driven by the new one", x.look(1, 3), 0);
    }

    private static void allCoresZero() {
        ChainBench x = new ChainBench();
        for (int d = 0; d < 4; d++) {
            x.device(2, 7, 6, -1);
            for (int older = 0; older <= d; older++) {
                CHECK.due("device " + older + " of " + (d + 1), x.look(older, 3), 0);
                x.core(older, 5, true);
                CHECK.due("set again", x.look(older, 3), 0b100000);
            }
        }
    }

    private static void dueTaken(int[] bits, int[] identities, int[] cells) {
        for (int b : bits) {
            for (int identity : identities) {
                for (int c : cells) {
                    ChainBench x = new ChainBench();
                    CHECK.due("device(" + b + ", " + identity + ", " + c + ", 0)", x.device(b, identity, c, 0), 0);
                    CHECK.due("find", x.find(), 1);
                    CHECK.due("found", x.found(0), identity);
                }
            }
        }
    }

    private static void deviceRefused() {
        CHECK.sentence("P2: bits is not 2 .. 4: too small", () -> dueBitsRefused(1, 0, -1, -2, LEAST));
        CHECK.sentence("P2: bits is not 2 .. 4: too large", () -> dueBitsRefused(5, 6, 34, MOST));
        CHECK.sentence("P2: identity is even", () -> dueIdentityRefused(0, 2, -2, LEAST, MOST - 1));
        CHECK.sentence("P2: identity is all ones", () -> dueIdentityRefused(-1));
        CHECK.sentence("P2: cells is not 1 .. 6: too small", () -> dueCellsRefused(0, -1, LEAST));
        CHECK.sentence("P2: cells is not 1 .. 6: too large", () -> dueCellsRefused(7, 8, 33, MOST));
        CHECK.sentence("P2: IllegalStateException: there are 4", BoundariesTest::fifthDevice);
    }

    private static void dueDeviceRefused(int bits, int identity, int cells) {
        String call = "device(" + bits + ", " + identity + ", " + cells + ", 1)";
        Maker[] makers = {ChainBench::new, Benches::single, Benches::busy};
        for (Maker maker : makers) {
            dueRefused(call, Checks.ARGUMENT, maker, x -> x.device(bits, identity, cells, 1));
        }
    }

    private static void dueBitsRefused(int... wrong) {
        for (int bits : wrong) {
            dueDeviceRefused(bits, 1, 1);
        }
    }

    private static void dueIdentityRefused(int... wrong) {
        for (int identity : wrong) {
            dueDeviceRefused(2, identity, 1);
        }
    }

    private static void dueCellsRefused(int... wrong) {
        for (int cells : wrong) {
            dueDeviceRefused(2, 1, cells);
        }
    }

    private static void fifthDevice() {
        dueRefused("a fifth device", Checks.STATE, Benches::full, x -> x.device(2, 1, 1, 1));
        dueRefused("a fifth device of most", Checks.STATE, Benches::full, x -> x.device(4, -3, 6, -1));
    }

    // Promise 3

    private static void net() {
        CHECK.sentence("P3: one more net: its number", BoundariesTest::netNumbers);
        CHECK.sentence("P3: without a fault", BoundariesTest::netWithoutFault);
        CHECK.sentence("P3: from any device to any device", BoundariesTest::netBetweenAny);
        CHECK.sentence("P3: first and last cells", BoundariesTest::netOfEdgeCells);
    }

    private static void netNumbers() {
        ChainBench x = new ChainBench();
        x.device(2, 1, 6, 0b111111);
        x.device(2, 1, 6, 0b000011);
        x.device(2, 1, 6, 0);
        for (int n = 0; n < 8; n++) {
            CHECK.due("net", x.net(n < 6 ? 0 : 1, n % 6, n < 6 ? 2 : 1, n < 6 ? n : n - 4), n);
        }
    }

    private static void netWithoutFault() {
        for (int kind = 0; kind <= 3; kind++) {
            ChainBench x = Benches.busy();
            x.fault(0, kind, 1);
            int net = x.net(0, 1, 0, 3);
            Hand.go(x, "11111");
            CHECK.due("value by its core bit", x.value(net), true);
            x.core(0, 1, false);
            CHECK.due("value by its core bit", x.value(net), false);
            x.test();
            CHECK.due("saw", x.saw(net), net + 1);
        }
    }

    private static void netBetweenAny() {
        for (int from = 0; from < 4; from++) {
            for (int to = 0; to < 4; to++) {
                ChainBench x = new ChainBench();
                for (int d = 0; d < 4; d++) {
                    x.device(2, 1, 1 + d + 1, 0b10);
                }
                CHECK.due("net from " + from + " to " + to, x.net(from, 1, to, 0), 0);
                x.core(from, 1, true);
                for (int d = 0; d < 4; d++) {
                    int due = (d == from ? 0b10 : 0) | (d == to ? 0b01 : 0);
                    CHECK.due("signals of " + d, x.look(d, 3), due);
                }
                CHECK.due("test", x.test(), 0);
            }
        }
    }

    private static void netOfEdgeCells() {
        for (int drivers = 0; drivers < 2; drivers++) {
            ChainBench x = new ChainBench();
            x.device(2, 1, 6, drivers == 0 ? 0b100000 : 0b000001);
            int from = drivers == 0 ? 5 : 0;
            CHECK.due("net", x.net(0, from, 0, 5 - from), 0);
            x.core(0, from, true);
            CHECK.due("signals", x.look(0, 3), 0b100001);
            CHECK.due("test", x.test(), 0);
        }
    }

    private static void netRefused() {
        CHECK.sentence("P3: there are no such devices: the first", () -> dueNetsRefused(-1, 2, 3, LEAST, MOST));
        CHECK.sentence("P3: there are no such devices: the second", () -> dueNetsToRefused(-1, 2, 3, LEAST, MOST));
        CHECK.sentence("P3: there are no such cells: the first", () -> dueCellsFromRefused(-1, 4, 6, 33, LEAST, MOST));
        CHECK.sentence("P3: there are no such cells: the second", () -> dueCellsToRefused(-1, 5, 6, 34, LEAST, MOST));
        CHECK.sentence("P3: there are no devices at all", BoundariesTest::netOfNoDevices);
        CHECK.sentence("P3: the first one is no driver", BoundariesTest::netFromReceiver);
        CHECK.sentence("P3: the second one no receiver", BoundariesTest::netToDriver);
        CHECK.sentence("P3: one is on a net already: the driver", BoundariesTest::driverTwice);
        CHECK.sentence("P3: one is on a net already: the receiver", BoundariesTest::receiverTwice);
        CHECK.sentence("P3: IllegalStateException: there are 8", BoundariesTest::ninthNet);
    }

    private static void dueNetRefused(int from, int fromCell, int to, int toCell) {
        String call = "net(" + from + ", " + fromCell + ", " + to + ", " + toCell + ")";
        dueRefused(call, Checks.ARGUMENT, Benches::busy, x -> x.net(from, fromCell, to, toCell));
    }

    private static void dueNetsRefused(int... wrong) {
        for (int from : wrong) {
            dueNetRefused(from, 1, 1, 2);
        }
    }

    private static void dueNetsToRefused(int... wrong) {
        for (int to : wrong) {
            dueNetRefused(0, 1, to, 2);
        }
    }

    /** Device 0 has 4 cells; cell 4 is a driver of device 1, and 33 would be cell 1 if it wrapped around. */
    private static void dueCellsFromRefused(int... wrong) {
        for (int cell : wrong) {
            dueNetRefused(0, cell, 1, 2);
        }
    }

    private static void dueCellsToRefused(int... wrong) {
        for (int cell : wrong) {
            dueNetRefused(0, 1, 1, cell);
        }
        dueNetRefused(0, 1, 0, 4);
    }

    private static void netOfNoDevices() {
        dueRefused("net(0, 0, 0, 1)", Checks.ARGUMENT, ChainBench::new, x -> x.net(0, 0, 0, 1));
        dueRefused("net(0, 0, 1, 0)", Checks.ARGUMENT, Benches::single, x -> x.net(0, 0, 1, 0));
        dueRefused("net(1, 0, 0, 1)", Checks.ARGUMENT, Benches::single, x -> x.net(1, 0, 0, 1));
    }

    private static void netFromReceiver() {
        dueNetRefused(0, 3, 1, 2);
        dueNetRefused(1, 3, 0, 3);
        dueNetRefused(0, 3, 0, 3);
    }

    private static void netToDriver() {
        dueNetRefused(0, 1, 1, 0);
        dueNetRefused(1, 0, 0, 1);
        dueNetRefused(0, 1, 0, 1);
    }

    private static void driverTwice() {
        dueNetRefused(0, 0, 1, 2);
        dueNetRefused(1, 4, 0, 3);
    }

    private static void receiverTwice() {
        dueNetRefused(0, 1, 1, 1);
        dueNetRefused(0, 1, 0, 2);
        dueNetRefused(1, 4, 0, 2);
    }

    private static void ninthNet() {
        dueRefused("a ninth net", Checks.STATE, Benches::full, x -> x.net(0, 4, 1, 5));
        dueRefused("a ninth net in one device", Checks.STATE, Benches::full, x -> x.net(3, 4, 3, 5));
    }

    // Promise 4

    private static void fault() {
        CHECK.sentence("P4: in place of those that they have", BoundariesTest::faultAfterFault);
        CHECK.sentence("P4: and in what these were shorted with", BoundariesTest::shortAfterShorts);
        CHECK.sentence("P4: with another one, for others of no matter", BoundariesTest::otherOfNoMatter);
        CHECK.sentence("P4: kind -1: it has none any more", BoundariesTest::noneAnyMore);
        CHECK.sentence("P4: there is no such net", () -> dueFaultNetRefused(-1, 2, 8, LEAST, MOST));
        CHECK.sentence("P4: there is no net at all", BoundariesTest::faultOfNoNets);
        CHECK.sentence("P4: there is no such kind", () -> dueKindRefused(-2, 4, 5, LEAST, MOST));
        CHECK.sentence("P4: there is no such other net", () -> dueOtherRefused(-1, 2, 8, LEAST, MOST));
        CHECK.sentence("P4: both are the same", BoundariesTest::shortWithItself);
    }

    /** Kinds and others of four nets, told by the document's words: a row of kinds and one of others. */
    private static void put(int[] kinds, int[] others, int net, int kind, int other) {
        free(kinds, others, net);
        kinds[net] = kind;
        if (kind >= 2) {
            free(kinds, others, other);
            kinds[net] = kind;
            kinds[other] = kind;
            others[net] = other;
            others[other] = net;
        }
    }

    private static void free(int[] kinds, int[] others, int net) {
        if (kinds[net] >= 2) {
            kinds[others[net]] = -1;
        }
        kinds[net] = -1;
    }

    private static int valuesDue(int[] kinds, int[] others, int cores) {
        int values = 0;
        for (int n = 0; n < 4; n++) {
            int own = cores >> n & 1;
            int its = cores >> others[n] & 1;
            int[] byKind = {own, 0, 1, own & its, own | its};
            values |= byKind[kinds[n] + 1] << n;
        }
        return values;
    }

    /** Each row: net, kind, other. */
    private static void dueFaults(int[]... rows) {
        ChainBench x = Benches.fourNets();
        int[] kinds = {-1, -1, -1, -1};
        int[] others = new int[4];
        StringBuilder told = new StringBuilder("values after faults");
        for (int[] row : rows) {
            x.fault(row[0], row[1], row[2]);
            put(kinds, others, row[0], row[1], row[2]);
            told.append(' ').append(row[0]).append(' ').append(row[1]).append(' ').append(row[2]).append(',');
        }
        for (int cores = 0; cores < 16; cores++) {
            Hand.setCores(x, cores);
            CHECK.due(told + " with cores " + cores, Hand.values(x), valuesDue(kinds, others, cores));
        }
    }

    private static void faultAfterFault() {
        for (int first = 0; first < 5 * 16; first++) {
            for (int second = 0; second < 5 * 16; second++) {
                int[] one = {first % 4, first / 16 - 1, first / 4 % 4};
                int[] two = {second % 4, second / 16 - 1, second / 4 % 4};
                if (one[0] != one[2] && two[0] != two[2]) {
                    dueFaults(one, two);
                }
            }
        }
    }

    private static void shortAfterShorts() {
        for (int each = 0; each < 16 * 16 * 16; each++) {
            int[] one = {each % 4, 3, each / 4 % 4};
            int[] two = {each / 16 % 4, 3, each / 64 % 4};
            int[] three = {each / 256 % 4, 2, each / 1024};
            if (one[0] != one[2] && two[0] != two[2] && three[0] != three[2]) {
                dueFaults(one, two, three);
            }
        }
    }

    private static void otherOfNoMatter() {
        int[] others = {0, 1, 2, 8, -1, LEAST, MOST};
        for (int kind = -1; kind <= 1; kind++) {
            for (int other : others) {
                ChainBench x = Benches.busy();
                ChainBench twin = Benches.busy();
                x.fault(0, kind, other);
                twin.fault(0, kind, 1);
                String changed = Hand.difference(Hand.everythingAndAfter(x), Hand.everythingAndAfter(twin));
                CHECK.dueText("fault(0, " + kind + ", " + other + ")", changed, "");
            }
        }
        ChainBench x = Benches.fourNets();
        x.fault(0, 1, 1);
        x.fault(1, 0, 0);
        x.fault(2, 1, 1);
        x.fault(3, -1, 2);
        CHECK.due("no fault of others", Hand.values(x), 0b0101);
    }

    private static void noneAnyMore() {
        for (int kind = -1; kind <= 3; kind++) {
            ChainBench x = Benches.fourNets();
            x.fault(3, 1, 0);
            x.fault(0, kind, 1);
            x.fault(0, -1, 1);
            for (int cores = 0; cores < 16; cores++) {
                Hand.setCores(x, cores);
                CHECK.due("after kind " + kind, Hand.values(x), cores | 0b1000);
            }
            x.fault(3, -1, 3);
            CHECK.due("test", x.test(), 0);
        }
    }

    private static void dueFaultRefused(int net, int kind, int other) {
        String call = "fault(" + net + ", " + kind + ", " + other + ")";
        dueRefused(call, Checks.ARGUMENT, Benches::busy, x -> x.fault(net, kind, other));
    }

    private static void dueFaultNetRefused(int... wrong) {
        for (int net : wrong) {
            for (int kind = -1; kind <= 3; kind++) {
                dueFaultRefused(net, kind, 1);
            }
        }
        dueRefused("fault(8, 0, 0)", Checks.ARGUMENT, Benches::full, x -> x.fault(8, 0, 0));
    }

    private static void faultOfNoNets() {
        Maker[] makers = {ChainBench::new, Benches::single};
        for (Maker maker : makers) {
            for (int kind = -1; kind <= 3; kind++) {
                int k = kind;
                dueRefused("fault(0, " + kind + ", 1)", Checks.ARGUMENT, maker, x -> x.fault(0, k, 1));
            }
        }
    }

    private static void dueKindRefused(int... wrong) {
        for (int kind : wrong) {
            dueFaultRefused(0, kind, 1);
            dueFaultRefused(1, kind, 1);
        }
    }

    private static void dueOtherRefused(int... wrong) {
        for (int other : wrong) {
            dueFaultRefused(0, 2, other);
            dueFaultRefused(1, 3, other);
        }
        dueRefused("fault(7, 3, 8)", Checks.ARGUMENT, Benches::full, x -> x.fault(7, 3, 8));
    }

    private static void shortWithItself() {
        for (int net = 0; net < 2; net++) {
            dueFaultRefused(net, 2, net);
            dueFaultRefused(net, 3, net);
        }
    }

    // Promise 5

    private static void core() {
        CHECK.sentence("P5: the core bit of a driver", BoundariesTest::coreOfDriver);
        CHECK.sentence("P5: there is no such device", () -> dueCoreDeviceRefused(-1, 2, 4, LEAST, MOST));
        CHECK.sentence("P5: there is no device at all", BoundariesTest::coreOfNoDevice);
        CHECK.sentence("P5: there is no such cell", () -> dueCoreCellRefused(-1, 4, 6, 32, 33, LEAST, MOST));
        CHECK.sentence("P5: it is none", BoundariesTest::coreOfReceiver);
    }

    private static void coreOfDriver() {
        for (int cell = 0; cell < 6; cell++) {
            ChainBench x = new ChainBench();
            x.device(2, 1, 6, -1);
            x.device(2, 1, 6, -1);
            x.core(1, cell, true);
            CHECK.due("set", x.look(1, 3), 1 << cell);
            x.core(1, cell, true);
            CHECK.due("set twice", x.look(1, 3), 1 << cell);
            CHECK.due("no other device's", x.look(0, 3), 0);
            x.core(1, 5 - cell, true);
            x.core(1, cell, false);
            CHECK.due("taken back", x.look(1, 3), 1 << 5 - cell);
            x.core(1, cell, false);
            CHECK.due("taken back twice", x.look(1, 3), 1 << 5 - cell);
        }
    }

    private static void dueCoreRefused(int device, int cell) {
        for (int one = 0; one < 2; one++) {
            boolean bit = one == 1;
            String call = "core(" + device + ", " + cell + ", " + bit + ")";
            dueRefused(call, Checks.ARGUMENT, Benches::busy, x -> x.core(device, cell, bit));
        }
    }

    private static void dueCoreDeviceRefused(int... wrong) {
        for (int device : wrong) {
            dueCoreRefused(device, 0);
        }
        dueRefused("core(4, 0, true)", Checks.ARGUMENT, Benches::full, x -> x.core(4, 0, true));
    }

    private static void coreOfNoDevice() {
        dueRefused("core(0, 0, true)", Checks.ARGUMENT, ChainBench::new, x -> x.core(0, 0, true));
        dueRefused("core(1, 0, true)", Checks.ARGUMENT, Benches::single, x -> x.core(1, 0, true));
    }

    private static void dueCoreCellRefused(int... wrong) {
        for (int cell : wrong) {
            dueCoreRefused(0, cell);
        }
        dueCoreRefused(1, 5);
    }

    private static void coreOfReceiver() {
        dueCoreRefused(0, 2);
        dueCoreRefused(0, 3);
        dueCoreRefused(1, 1);
    }

    // Promises 6 and 7

    private static void clockAndState() {
        CHECK.sentence("P6: what comes out", BoundariesTest::whatComesOut);
        CHECK.sentence("P6: IllegalStateException: there is no device", BoundariesTest::clockWithoutDevice);
        CHECK.sentence("P7: the state of the ports", BoundariesTest::everyState);
        CHECK.sentence("P7: 0 when there is no device", BoundariesTest::stateWithoutDevice);
    }

    private static void whatComesOut() {
        ChainBench x = new ChainBench();
        x.device(2, 0x8000_0001, 1, 1);
        Hand.go(x, "0100");
        String due = "1" + "0".repeat(30) + "1" + "01";
        CHECK.dueText("the identity, then TDI", Hand.shift(x, "01" + "0".repeat(32)), due);
    }

    private static void clockWithoutDevice() {
        for (int each = 0; each < 4; each++) {
            boolean tms = each % 2 == 1;
            boolean tdi = each / 2 == 1;
            dueRefused("clock(" + tms + ", " + tdi + ")", Checks.STATE, ChainBench::new, x -> x.clock(tms, tdi));
        }
    }

    private static void everyState() {
        for (int s = 0; s < 16; s++) {
            ChainBench x = new ChainBench();
            x.device(2, 1, 1, 1);
            Hand.go(x, Hand.WAYS[s]);
            CHECK.due("state", x.state(), s);
            CHECK.due("state, asked again", x.state(), s);
        }
    }

    private static void stateWithoutDevice() {
        ChainBench x = new ChainBench();
        CHECK.due("state of a new object", x.state(), 0);
        CHECK.dueThrow("clock", Checks.STATE, () -> x.clock(false, false));
        CHECK.due("state after a refused clock", x.state(), 0);
        CHECK.dueThrow("find", Checks.STATE, () -> x.find());
        CHECK.due("state after a refused find", x.state(), 0);
        CHECK.dueThrow("test", Checks.STATE, () -> x.test());
        CHECK.due("state after a refused test", x.state(), 0);
        CHECK.dueThrow("device", Checks.ARGUMENT, () -> x.device(5, 1, 1, 1));
        CHECK.due("state after a refused device", x.state(), 0);
    }

    // Promise 8

    private static void look() {
        CHECK.sentence("P8: 0 its instruction", BoundariesTest::lookAtInstruction);
        CHECK.sentence("P8: 1 its instruction's shift register (0 at first)", BoundariesTest::lookAtShiftRegister);
        CHECK.sentence("P8: 2 its latches (0 for receivers)", BoundariesTest::lookAtLatches);
        CHECK.sentence("P8: 3 the signals of its cells", BoundariesTest::lookAtSignals);
        CHECK.sentence("P8: looking changes nothing", BoundariesTest::lookChangesNothing);
        CHECK.sentence("P8: no such device", () -> dueLookDeviceRefused(-1, 2, 4, LEAST, MOST));
        CHECK.sentence("P8: no device at all", BoundariesTest::lookAtNoDevice);
        CHECK.sentence("P8: no such what", () -> dueWhatRefused(-1, 4, 5, LEAST, MOST));
    }

    private static void lookAtInstruction() {
        ChainBench x = new ChainBench();
        x.device(4, 1, 1, 1);
        x.device(3, 1, 1, 1);
        x.device(2, 1, 1, 1);
        CHECK.due("at first", x.look(0, 0), 1);
        Hand.go(x, "0");
        Hand.scanI(x, "11" + "011" + "0111");
        CHECK.due("of device 0", x.look(0, 0), 14);
        CHECK.due("of device 1", x.look(1, 0), 6);
        CHECK.due("of device 2", x.look(2, 0), 3);
    }

    private static void lookAtShiftRegister() {
        for (int bits = 2; bits <= 4; bits++) {
            ChainBench x = new ChainBench();
            x.device(bits, 1, 1, 1);
            CHECK.due("at first", x.look(0, 1), 0);
            Hand.go(x, "0110");
            CHECK.due("until CAPTURE-I is left", x.look(0, 1), 0);
            Hand.go(x, "0");
            CHECK.due("captured", x.look(0, 1), 1);
            x.clock(false, true);
            CHECK.due("shifted", x.look(0, 1), 1 << bits - 1);
        }
    }

    private static void lookAtLatches() {
        for (int drivers = 0; drivers < 8; drivers++) {
            ChainBench x = new ChainBench();
            x.device(2, 1, 3, drivers);
            x.device(2, 1, 3, ~drivers);
            Hand.go(x, "0");
            Hand.scanI(x, "0000");
            CHECK.due("at first", x.look(0, 2), 0);
            Hand.scanD(x, "111111");
            CHECK.due("of device 0", x.look(0, 2), drivers);
            CHECK.due("of device 1", x.look(1, 2), 7 - drivers);
        }
    }

    private static void lookAtSignals() {
        ChainBench x = new ChainBench();
        x.device(2, 1, 6, 0b000011);
        x.device(2, 1, 2, 0b10);
        x.net(1, 1, 0, 5);
        CHECK.due("at first", x.look(0, 3), 0);
        x.core(0, 0, true);
        x.core(1, 1, true);
        CHECK.due("of device 0", x.look(0, 3), 0b100001);
        CHECK.due("of device 1", x.look(1, 3), 0b10);
        x.fault(0, 0, 0);
        CHECK.due("of device 0 with a fault", x.look(0, 3), 0b000001);
        CHECK.due("of device 1 with a fault", x.look(1, 3), 0b10);
    }

    private static void lookChangesNothing() {
        Maker[] makers = {Benches::single, Benches::busy, Benches::full};
        for (Maker maker : makers) {
            ChainBench x = maker.make();
            ChainBench twin = maker.make();
            Hand.everything(x);
            String changed = Hand.difference(Hand.everythingAndAfter(x), Hand.everythingAndAfter(twin));
            CHECK.dueText("after all that can be asked", changed, "");
        }
    }

    private static void dueLookDeviceRefused(int... wrong) {
        for (int device : wrong) {
            for (int what = 0; what <= 3; what++) {
                int w = what;
                String call = "look(" + device + ", " + what + ")";
                dueRefused(call, Checks.ARGUMENT, Benches::busy, x -> x.look(device, w));
            }
        }
        dueRefused("look(4, 0)", Checks.ARGUMENT, Benches::full, x -> x.look(4, 0));
    }

    private static void lookAtNoDevice() {
        for (int what = -1; what <= 4; what++) {
            int w = what;
            dueRefused("look(0, " + what + ")", Checks.ARGUMENT, ChainBench::new, x -> x.look(0, w));
            dueRefused("look(1, " + what + ")", Checks.ARGUMENT, Benches::single, x -> x.look(1, w));
        }
    }

    private static void dueWhatRefused(int... wrong) {
        for (int what : wrong) {
            dueRefused("look(0, " + what + ")", Checks.ARGUMENT, Benches::busy, x -> x.look(0, what));
            dueRefused("look(1, " + what + ")", Checks.ARGUMENT, Benches::busy, x -> x.look(1, what));
        }
    }

    // Promise 9

    private static void value() {
        CHECK.sentence("P9: the value of a net now", BoundariesTest::valueNow);
        CHECK.sentence("P9: there is none", () -> dueValueRefused(-1, 2, 8, LEAST, MOST));
    }

    private static void valueNow() {
        ChainBench x = Benches.fourNets();
        x.core(0, 3, true);
        CHECK.due("by its core bit", x.value(3), true);
        x.core(0, 3, false);
        CHECK.due("by its core bit now", x.value(3), false);
        x.fault(3, 1, 0);
        CHECK.due("by its fault", x.value(3), true);
        x.fault(3, -1, 0);
        CHECK.due("without it", x.value(3), false);
        Hand.go(x, "0");
        Hand.scanI(x, "00000");
        Hand.go(x, "100");
        Hand.shift(x, "0000" + "0001");
        Hand.go(x, "1");
        CHECK.due("before UPDATE-D is left", x.value(3), false);
        Hand.go(x, "0");
        CHECK.due("by its latch", x.value(3), true);
        Hand.go(x, "11");
        CHECK.due("before RESET", x.value(3), true);
        Hand.go(x, "1");
        CHECK.due("in RESET", x.value(3), false);
    }

    private static void dueValueRefused(int... wrong) {
        for (int net : wrong) {
            dueRefused("value(" + net + ")", Checks.ARGUMENT, Benches::busy, x -> x.value(net));
        }
        dueRefused("value(8)", Checks.ARGUMENT, Benches::full, x -> x.value(8));
        dueRefused("value(0)", Checks.ARGUMENT, Benches::single, x -> x.value(0));
        dueRefused("value(0)", Checks.ARGUMENT, ChainBench::new, x -> x.value(0));
    }

    // Promises 10 and 11

    private static void findAndFound() {
        CHECK.sentence("P10: how many devices", BoundariesTest::howManyDevices);
        CHECK.sentence("P10: IllegalStateException: there is none",
            () -> dueRefused("find()", Checks.STATE, ChainBench::new, x -> x.find()));
        CHECK.sentence("P11: found k-th, counted from device 0", BoundariesTest::foundFromDevice0);
        CHECK.sentence("P11: there is none", BoundariesTest::foundNone);
        CHECK.sentence("P11: nothing was found", BoundariesTest::nothingFound);
        CHECK.sentence("P11: nothing was found since a device came", BoundariesTest::foundBeforeDevice);
        CHECK.sentence("P11: what was found stays in all other calls", BoundariesTest::foundStays);
    }

    private static ChainBench devices(int count) {
        ChainBench x = new ChainBench();
        for (int d = 0; d < count; d++) {
            x.device(2 + d % 3, d % 2 == 0 ? MOST - 2 * d : LEAST + 1 + 2 * d, 2 + d, 0b01);
        }
        return x;
    }

    private static void howManyDevices() {
        for (int count = 1; count <= 4; count++) {
            ChainBench x = devices(count);
            CHECK.due("find", x.find(), count);
            CHECK.due("find again", x.find(), count);
        }
    }

    private static void foundFromDevice0() {
        for (int count = 1; count <= 4; count++) {
            ChainBench x = devices(count);
            x.find();
            for (int d = 0; d < count; d++) {
                CHECK.due("found " + d + " of " + count, x.found(d), d % 2 == 0 ? MOST - 2 * d : LEAST + 1 + 2 * d);
            }
        }
    }

    private static ChainBench searched(int count) {
        ChainBench x = devices(count);
        x.find();
        return x;
    }

    private static void foundNone() {
        for (int count = 1; count <= 4; count++) {
            int devices = count;
            int[] wrong = {-1, count, count + 1, 4, 5, LEAST, MOST};
            for (int k : wrong) {
                dueRefused("found(" + k + ") of " + count, Checks.INDEX, () -> searched(devices), x -> x.found(k));
            }
        }
    }

    private static void nothingFound() {
        for (int k = -1; k <= 4; k++) {
            int which = k;
            dueRefused("found(" + k + ") without devices", Checks.INDEX, ChainBench::new, x -> x.found(which));
            dueRefused("found(" + k + ") before find", Checks.INDEX, () -> devices(4), x -> x.found(which));
        }
        ChainBench x = new ChainBench();
        CHECK.dueThrow("find", Checks.STATE, () -> x.find());
        CHECK.dueThrow("found after a refused find", Checks.INDEX, () -> x.found(0));
    }

    private static void foundBeforeDevice() {
        for (int count = 1; count <= 3; count++) {
            ChainBench x = searched(count);
            int first = x.found(0);
            x.device(2, 5, 1, 1);
            for (int k = 0; k <= count; k++) {
                int which = k;
                CHECK.dueThrow("found(" + k + ")", Checks.INDEX, () -> x.found(which));
            }
            CHECK.due("find", x.find(), count + 1);
            CHECK.due("found first", x.found(0), first);
            CHECK.due("found last", x.found(count), 5);
        }
    }

    private static void foundStays() {
        ChainBench x = searched(2);
        x.net(0, 0, 1, 1);
        CHECK.due("after a net", x.found(1), LEAST + 3);
        x.fault(0, 1, 0);
        x.core(0, 0, true);
        x.test();
        CHECK.due("after a test", x.found(0), MOST);
        Hand.go(x, "11111");
        CHECK.due("after clocks", x.found(1), LEAST + 3);
        CHECK.dueThrow("a refused device", Checks.ARGUMENT, () -> x.device(2, 2, 1, 1));
        CHECK.due("after a refused device", x.found(1), LEAST + 3);
    }

    // Promises 12 and 13

    private static void testAndSaw() {
        CHECK.sentence("P12: how many nets are faulty", BoundariesTest::howManyFaulty);
        CHECK.sentence("P12: IllegalStateException: there is no device",
            () -> dueRefused("test()", Checks.STATE, ChainBench::new, x -> x.test()));
        CHECK.sentence("P12: IllegalStateException: there is no net", BoundariesTest::testWithoutNet);
        CHECK.sentence("P13: what a net saw in the latest test", BoundariesTest::sawLatest);
        CHECK.sentence("P13: there is none", BoundariesTest::sawNone);
        CHECK.sentence("P13: no test was made", BoundariesTest::sawUntested);
        CHECK.sentence("P13: no test was made since a net came", BoundariesTest::sawBeforeNet);
        CHECK.sentence("P13: no test was made since a device came", BoundariesTest::sawBeforeDevice);
        CHECK.sentence("P13: what was seen stays in all other calls", BoundariesTest::sawStays);
    }

    private static void howManyFaulty() {
        ChainBench x = Benches.full();
        x.fault(7, -1, 0);
        CHECK.due("none", x.test(), 0);
        for (int n = 0; n < 8; n++) {
            x.fault(n, n % 2, 0);
            CHECK.due("one more", x.test(), n + 1);
        }
        for (int n = 0; n < 8; n++) {
            x.fault(n, -1, 0);
            CHECK.due("one less", x.test(), 7 - n);
        }
    }

    private static void testWithoutNet() {
        dueRefused("test()", Checks.STATE, Benches::single, x -> x.test());
        for (int count = 1; count <= 4; count++) {
            int devices = count;
            dueRefused("test()", Checks.STATE, () -> searched(devices), x -> x.test());
        }
    }

    private static void sawLatest() {
        ChainBench x = Benches.busy();
        CHECK.due("before the fault", x.saw(0), 1);
        x.test();
        CHECK.due("with the short", x.saw(0), 3);
        x.fault(0, 0, 0);
        CHECK.due("no test since", x.saw(0), 3);
        x.test();
        CHECK.due("stuck at 0", x.saw(0), 0);
        CHECK.due("the other one", x.saw(1), 2);
        x.fault(0, 1, 0);
        x.test();
        CHECK.due("stuck at 1", x.saw(0), 3);
        x.fault(0, -1, 0);
        x.test();
        CHECK.due("none any more", x.saw(0), 1);
    }

    private static void sawNone() {
        int[] wrong = {-1, 2, 7, 8, LEAST, MOST};
        for (int net : wrong) {
            dueRefused("saw(" + net + ")", Checks.INDEX, Benches::busy, x -> x.saw(net));
        }
        dueRefused("saw(8)", Checks.INDEX, Benches::full, x -> x.saw(8));
        dueRefused("saw(-1)", Checks.INDEX, Benches::full, x -> x.saw(-1));
    }

    private static void sawUntested() {
        dueRefused("saw(0)", Checks.INDEX, ChainBench::new, x -> x.saw(0));
        dueRefused("saw(0)", Checks.INDEX, Benches::single, x -> x.saw(0));
        for (int net = -1; net <= 4; net++) {
            int n = net;
            dueRefused("saw(" + net + ")", Checks.INDEX, Benches::fourNets, x -> x.saw(n));
        }
        ChainBench x = Benches.single();
        CHECK.dueThrow("test", Checks.STATE, () -> x.test());
        x.net(0, 0, 0, 1);
        CHECK.dueThrow("saw after a refused test", Checks.INDEX, () -> x.saw(0));
        x.find();
        CHECK.dueThrow("saw after find", Checks.INDEX, () -> x.saw(0));
    }

    private static void sawBeforeNet() {
        ChainBench x = Benches.busy();
        int net = x.net(0, 1, 1, 2);
        for (int n = 0; n <= net; n++) {
            int which = n;
            CHECK.dueThrow("saw(" + n + ")", Checks.INDEX, () -> x.saw(which));
        }
        x.fault(0, -1, 0);
        CHECK.due("test", x.test(), 0);
        CHECK.due("saw of the new one", x.saw(net), net + 1);
    }

    private static void sawBeforeDevice() {
        ChainBench x = Benches.busy();
        x.device(2, 5, 1, 1);
        CHECK.dueThrow("saw(0)", Checks.INDEX, () -> x.saw(0));
        CHECK.dueThrow("saw(1)", Checks.INDEX, () -> x.saw(1));
        CHECK.due("test, the short stays", x.test(), 2);
        CHECK.due("saw", x.saw(1), 3);
    }

    private static void sawStays() {
        ChainBench x = Benches.busy();
        x.fault(0, 0, 0);
        x.find();
        Hand.go(x, "11111");
        x.core(0, 0, true);
        CHECK.due("after clocks and find", x.saw(0), 1);
        CHECK.dueThrow("a refused device", Checks.ARGUMENT, () -> x.device(1, 1, 1, 1));
        CHECK.due("after a refused device", x.saw(0), 1);
        CHECK.dueThrow("a refused net", Checks.ARGUMENT, () -> x.net(0, 0, 1, 2));
        CHECK.due("after a refused net", x.saw(1), 2);
    }

    // Promise 14

    private static void clocks() {
        CHECK.sentence("P14: how many clocks there were", BoundariesTest::clocksCounted);
        CHECK.sentence("P14: those of find and test are clocks too", BoundariesTest::clocksOfHost);
        CHECK.sentence("P14: since the last device came", BoundariesTest::clocksSinceDevice);
        CHECK.sentence("P14: no other call is a clock", BoundariesTest::otherCallsAreNoClocks);
        CHECK.sentence("P14: a refused call is no clock", BoundariesTest::refusedCallsAreNoClocks);
    }

    private static void clocksCounted() {
        ChainBench x = new ChainBench();
        CHECK.due("of a new object", x.clocks(), 0);
        x.device(2, 1, 1, 1);
        CHECK.due("of a new device", x.clocks(), 0);
        for (int i = 1; i <= 200; i++) {
            x.clock(i % 3 == 0, i % 2 == 0);
            CHECK.due("clocks", x.clocks(), i);
        }
    }

    private static void clocksOfHost() {
        ChainBench x = Benches.fourNets();
        x.find();
        CHECK.due("find", x.clocks(), 171);
        x.test();
        CHECK.due("test", x.clocks(), 171 + 6 + 4 + 5 + 2 + 3 * 2 * (3 + 8 + 2));
        x.find();
        CHECK.due("find again", x.clocks(), 2 * 171 + 17 + 78);
    }

    private static void clocksSinceDevice() {
        ChainBench x = new ChainBench();
        for (int d = 0; d < 4; d++) {
            x.device(2, 1, 1, 1);
            CHECK.due("none since device " + d, x.clocks(), 0);
            Hand.go(x, "0101");
            CHECK.due("four since device " + d, x.clocks(), 4);
        }
        CHECK.dueThrow("a fifth", Checks.STATE, () -> x.device(2, 1, 1, 1));
        CHECK.due("the refused one is none", x.clocks(), 4);
    }

    private static void otherCallsAreNoClocks() {
        ChainBench x = Benches.busy();
        int before = x.clocks();
        Hand.everything(x);
        x.net(0, 1, 1, 2);
        x.fault(0, 0, 0);
        x.core(0, 1, false);
        CHECK.due("clocks", x.clocks(), before);
    }

    private static void refusedCallsAreNoClocks() {
        ChainBench x = new ChainBench();
        CHECK.dueThrow("clock", Checks.STATE, () -> x.clock(true, true));
        CHECK.dueThrow("find", Checks.STATE, () -> x.find());
        CHECK.due("without a device", x.clocks(), 0);
        x.device(2, 1, 2, 1);
        Hand.go(x, "01");
        CHECK.dueThrow("test", Checks.STATE, () -> x.test());
        CHECK.due("without a net", x.clocks(), 2);
        CHECK.due("the state is left, too", x.state(), 2);
    }
}
