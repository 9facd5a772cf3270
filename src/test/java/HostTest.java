/** For each sentence of the Terms about the host, a test of its own; its scans are made again by hand. */
public final class HostTest {
    /** How many rounds a test of so many nets has. */
    private static final int[] ROUNDS = {0, 2, 2, 3, 3, 3, 3, 4, 4};
    private static final String ALL_ONES = "1".repeat(160);

    private static final Checks CHECK = new Checks("HostTest");

    public static void main(String[] args) {
        CHECK.sentence("to go: five clocks with TMS 1, then one with 0", HostTest::goFromEveryState);
        CHECK.sentence("to go: TDI 0", HostTest::goWithZeros);
        CHECK.sentence("to go: what the states on the way do is done", HostTest::goDoesWhatStatesDo);
        CHECK.sentence("the host works by clocks alone", HostTest::clocksAlone);
        CHECK.sentence("so it is in IDLE again", HostTest::idleAgain);
        CHECK.sentence("find: scans 32 * 5 D bits 1", HostTest::findScans160);
        CHECK.sentence("out of the last device comes its identity first", HostTest::lastIdentityFirst);
        CHECK.sentence("when at last 32 bits 1 come, there are no more", HostTest::onesAcrossIdentities);
        CHECK.sentence("test: all devices get EXTEST", HostTest::allGetExtest);
        CHECK.sentence("as long as 2^r is not above n + 1", HostTest::roundsOfTest);
        CHECK.sentence("the latch of each net's driver becomes bit r", HostTest::latchesOfLastRound);
        CHECK.sentence("all other bits 0", HostTest::otherLatchesAreZero);
        CHECK.sentence("scans the same D bits again", HostTest::testByHand);
        CHECK.sentence("takes the bit of each net's receiver as bit r", HostTest::everyReceiver);
        CHECK.sentence("stuck at 0: saw 0", HostTest::stuckAtZero);
        CHECK.sentence("stuck at 1: saw ones in all rounds", HostTest::stuckAtOne);
        CHECK.sentence("shorted by AND, by OR: what both saw", HostTest::everyShort);
        CHECK.sentence("faulty when it saw something other", HostTest::faultThatDoesNotShow);
        CHECK.end();
    }

    /** Three devices with 2, 3 and 4 bits, all in EXTEST, with all latches 1; in IDLE. */
    private static ChainBench latched() {
        ChainBench x = new ChainBench();
        x.device(2, 5, 4, 0b1111);
        x.device(3, 0x7FFF_FFFF, 1, 1);
        x.device(4, 0x8000_0001, 3, 0b101);
        Hand.go(x, "0");
        Hand.scanI(x, "0".repeat(9));
        Hand.scanD(x, "1".repeat(8));
        return x;
    }

    /** From IDLE, so that EXTEST still stands; RESET has no way that keeps it. */
    private static void goOn(ChainBench x, int state) {
        Hand.go(x, state == 0 ? "111" : Hand.WAYS[state].substring(1));
    }

    private static void goFromEveryState() {
        for (int s = 0; s < 16; s++) {
            ChainBench x = latched();
            goOn(x, s);
            CHECK.due("the state before", x.state(), s);
            int before = x.clocks();
            CHECK.due("find from state " + s, x.find(), 3);
            CHECK.due("clocks of find", x.clocks() - before, 5 + 1 + 3 + 160 + 2);
            CHECK.due("the instruction, by RESET", x.look(0, 0), 1);
        }
    }

    private static void goWithZeros() {
        ChainBench inData = latched();
        goOn(inData, 4);
        inData.find();
        CHECK.due("a 0 came into device 0", inData.look(0, 2), 0b0111);
        ChainBench inInstructions = latched();
        goOn(inInstructions, 11);
        inInstructions.find();
        CHECK.due("a 0 came into device 0", inInstructions.look(0, 1), 0b00);
        CHECK.due("a 1 came into device 1", inInstructions.look(1, 1), 0b100);
        CHECK.due("a 1 came into device 2", inInstructions.look(2, 1), 0b1000);
    }

    private static void goDoesWhatStatesDo() {
        for (int s = 0; s < 16; s++) {
            for (int extra = 0; extra < 3; extra++) {
                ChainBench x = latched();
                ChainBench twin = latched();
                goOn(x, s);
                goOn(twin, s);
                Hand.go(x, "0".repeat(extra));
                Hand.go(twin, "0".repeat(extra));
                x.find();
                Hand.go(twin, "111110");
                Hand.scanD(twin, ALL_ONES);
                dueLooks("find from state " + s, x, twin);
            }
        }
    }

    private static void dueLooks(String call, ChainBench x, ChainBench twin) {
        CHECK.due(call + ": clocks", x.clocks(), twin.clocks());
        CHECK.due(call + ": state", x.state(), twin.state());
        for (int d = 0; d < 3; d++) {
            for (int what = 0; what <= 3; what++) {
                CHECK.due(call + ": look " + d + " " + what, x.look(d, what), twin.look(d, what));
            }
        }
    }

    private static void clocksAlone() {
        ChainBench x = latched();
        x.core(0, 3, true);
        x.core(2, 2, true);
        x.find();
        CHECK.due("core bits of device 0 after find", x.look(0, 3), 0b1000);
        CHECK.due("core bits of device 2 after find", x.look(2, 3), 0b100);
        x.net(0, 0, 2, 1);
        x.fault(0, 1, 0);
        x.test();
        Hand.go(x, "111");
        CHECK.due("core bits of device 0 after test", x.look(0, 3), 0b1000);
        CHECK.due("core bits and the fault after test", x.look(2, 3), 0b110);
    }

    private static void idleAgain() {
        for (int s = 0; s < 16; s++) {
            ChainBench x = latched();
            x.net(0, 0, 2, 1);
            goOn(x, s);
            x.find();
            CHECK.due("after find", x.state(), 1);
            Hand.go(x, "111" + Hand.WAYS[s]);
            x.test();
            CHECK.due("after test", x.state(), 1);
        }
    }

    private static void findScans160() {
        for (int devices = 1; devices <= 4; devices++) {
            ChainBench x = new ChainBench();
            for (int d = 0; d < devices; d++) {
                x.device(2 + d % 3, 4 * d + 1, 1 + d, d);
            }
            CHECK.due("find", x.find(), devices);
            CHECK.due("clocks with " + devices, x.clocks(), 6 + 3 + 160 + 2);
        }
    }

    private static void lastIdentityFirst() {
        int[] identities = {0x1234_5679, 0x8000_0001, 0x7FFF_FFFF, 0x0F0F_0F0F};
        ChainBench x = new ChainBench();
        for (int d = 0; d < 4; d++) {
            x.device(2, identities[d], 1, 1);
        }
        x.find();
        for (int d = 0; d < 4; d++) {
            CHECK.due("found " + d, x.found(d), identities[d]);
        }
        StringBuilder due = new StringBuilder();
        for (int d = 3; d >= 0; d--) {
            due.append(Hand.bits(identities[d], 32));
        }
        CHECK.dueText("the same by hand", Hand.scanD(x, ALL_ONES), due + "1".repeat(32));
    }

    /** Each has one bit 0 alone, or ones that meet those of its neighbour: more than 32 in a row. */
    private static void onesAcrossIdentities() {
        for (int zero = 1; zero < 32; zero++) {
            ChainBench x = new ChainBench();
            for (int d = 0; d < 4; d++) {
                x.device(2, ~(1 << zero), 1, 1);
            }
            CHECK.due("find, bit " + zero + " is 0", x.find(), 4);
            CHECK.due("found, bit " + zero + " is 0", x.found(3), ~(1 << zero));
        }
        ChainBench x = new ChainBench();
        x.device(2, 0x3FFF_FFFF, 1, 1);
        x.device(2, 0xFFFF_FFFD, 1, 1);
        CHECK.due("60 ones in a row", x.find(), 2);
        CHECK.due("found 0", x.found(0), 0x3FFF_FFFF);
        CHECK.due("found 1", x.found(1), 0xFFFF_FFFD);
        ChainBench atTheEnd = new ChainBench();
        atTheEnd.device(2, 0xFFFF_FFFD, 1, 1);
        CHECK.due("ones before the last 32", atTheEnd.find(), 1);
    }

    private static void allGetExtest() {
        for (int devices = 1; devices <= 4; devices++) {
            ChainBench x = new ChainBench();
            x.device(4, 5, 2, 0b01);
            for (int d = 1; d < devices; d++) {
                x.device(2 + d % 3, 5, d, 0);
            }
            x.net(0, 0, 0, 1);
            Hand.go(x, "0");
            Hand.scanI(x, "1".repeat(14));
            CHECK.due("test", x.test(), 0);
            for (int d = 0; d < devices; d++) {
                CHECK.due("instruction of " + d, x.look(d, 0), 0);
                CHECK.due("its shift register", x.look(d, 1), 0);
            }
        }
    }

    /** 8 bits of instructions and 24 cells, with so many nets, numbered against the order of the cells. */
    private static ChainBench netted(int nets) {
        ChainBench x = new ChainBench();
        x.device(2, 5, 6, 0b111000);
        x.device(2, 7, 6, 0b101010);
        x.device(2, 9, 6, 0b000111);
        x.device(2, 11, 6, 0b111111);
        int[][] ends = {
            {3, 5, 0, 0}, {0, 3, 2, 5}, {2, 0, 1, 0}, {1, 5, 1, 4},
            {0, 5, 0, 2}, {3, 0, 2, 3}, {1, 1, 1, 2}, {2, 2, 2, 4}};
        for (int n = 0; n < nets; n++) {
            x.net(ends[n][0], ends[n][1], ends[n][2], ends[n][3]);
        }
        return x;
    }

    private static void roundsOfTest() {
        for (int nets = 1; nets <= 8; nets++) {
            ChainBench x = netted(nets);
            CHECK.due("test of " + nets, x.test(), 0);
            CHECK.due("clocks with " + nets, x.clocks(), 6 + 4 + 8 + 2 + ROUNDS[nets] * 2 * (3 + 24 + 2));
        }
    }

    /** By value() in EXTEST: the last round's latches still drive the nets. */
    private static void latchesOfLastRound() {
        for (int nets = 1; nets <= 8; nets++) {
            ChainBench x = netted(nets);
            x.test();
            for (int n = 0; n < nets; n++) {
                boolean due = (n + 1 >> ROUNDS[nets] - 1 & 1) == 1;
                CHECK.due("net " + n + " of " + nets, x.value(n), due);
            }
        }
    }

    private static void otherLatchesAreZero() {
        ChainBench x = netted(1);
        Hand.go(x, "0");
        Hand.scanI(x, "0".repeat(8));
        Hand.scanD(x, "1".repeat(24));
        CHECK.due("latches before", x.look(3, 2), 0b111111);
        x.test();
        for (int d = 0; d < 4; d++) {
            CHECK.due("latches of " + d, x.look(d, 2), 0);
            CHECK.due("signals of " + d, x.look(d, 3), 0);
        }
    }

    private static void testByHand() {
        ChainBench x = new ChainBench();
        ChainBench twin = new ChainBench();
        for (ChainBench each : new ChainBench[] {x, twin}) {
            each.device(3, 5, 2, 0b01);
            each.device(2, 7, 3, 0b110);
            each.device(2, 9, 1, 0);
            each.net(0, 0, 2, 0);
            each.net(1, 2, 1, 0);
            each.fault(1, 3, 0);
        }
        CHECK.due("test", x.test(), 2);
        Hand.go(twin, "111110");
        Hand.scanI(twin, "0000000");
        String round0 = "0" + "000" + "10";
        String round1 = "0" + "001" + "00";
        CHECK.dueText("the first scan", Hand.scanD(twin, round0), "000000");
        CHECK.dueText("the second scan", Hand.scanD(twin, round0), "1" + "100" + "10");
        CHECK.dueText("the third scan", Hand.scanD(twin, round1), "1" + "100" + "10");
        CHECK.dueText("the fourth scan", Hand.scanD(twin, round1), "1" + "101" + "00");
        CHECK.due("saw 0", x.saw(0), 3);
        CHECK.due("saw 1", x.saw(1), 3);
        dueLooks("test", x, twin);
    }

    private static void everyReceiver() {
        for (int nets = 1; nets <= 8; nets++) {
            ChainBench x = netted(nets);
            CHECK.due("test of " + nets, x.test(), 0);
            for (int n = 0; n < nets; n++) {
                CHECK.due("saw " + n + " of " + nets, x.saw(n), n + 1);
            }
        }
    }

    private static void dueStuck(int kind) {
        for (int nets = 1; nets <= 8; nets++) {
            for (int bad = 0; bad < nets; bad++) {
                ChainBench x = netted(nets);
                x.fault(bad, kind, 0);
                CHECK.due("test of " + nets, x.test(), 1);
                for (int n = 0; n < nets; n++) {
                    int stuck = kind == 0 ? 0 : (1 << ROUNDS[nets]) - 1;
                    CHECK.due("saw " + n + " of " + nets, x.saw(n), n == bad ? stuck : n + 1);
                }
            }
        }
    }

    private static void stuckAtZero() {
        dueStuck(0);
    }

    private static void stuckAtOne() {
        dueStuck(1);
    }

    private static void everyShort() {
        for (int one = 0; one < 8; one++) {
            for (int other = 0; other < 8; other++) {
                for (int kind = 2; kind <= 3 && one != other; kind++) {
                    ChainBench x = netted(8);
                    x.fault(one, kind, other);
                    int both = kind == 2 ? one + 1 & other + 1 : one + 1 | other + 1;
                    int faulty = (both == one + 1 ? 0 : 1) + (both == other + 1 ? 0 : 1);
                    CHECK.due("test, short of " + one + " and " + other, x.test(), faulty);
                    CHECK.due("saw " + one, x.saw(one), both);
                    CHECK.due("saw " + other, x.saw(other), both);
                }
            }
        }
    }

    private static void faultThatDoesNotShow() {
        ChainBench x = netted(8);
        x.fault(0, 2, 2);
        CHECK.due("1 AND 3 is what net 0 is due to see", x.test(), 1);
        CHECK.due("saw 0", x.saw(0), 1);
        CHECK.due("saw 2", x.saw(2), 1);
        x.fault(0, 3, 2);
        CHECK.due("1 OR 3 is what net 2 is due to see", x.test(), 1);
        for (int n = 0; n < 8; n++) {
            x.fault(n, 0, 0);
        }
        CHECK.due("all eight", x.test(), 8);
    }
}
