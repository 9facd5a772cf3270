/** For each promise of the document: ordinary inputs, the edges that it names, and wrong inputs. */
public final class PromisesTest {
    private static final int[] BAD_NUMBERS = {-1, Integer.MIN_VALUE, Integer.MAX_VALUE, 32, 33};
    private static final int[][] NEXT = {
        {1, 0}, {1, 2}, {3, 9}, {4, 5}, {4, 5}, {6, 8}, {6, 7}, {4, 8},
        {1, 2}, {10, 0}, {11, 12}, {11, 12}, {13, 15}, {13, 14}, {11, 15}, {1, 2}};

    private static final Checks CHECK = new Checks("PromisesTest");

    public static void main(String[] args) {
        newObject();
        device();
        deviceWrong();
        deviceRestartsAll();
        net();
        netWrong();
        fault();
        faultInPlaceOfOthers();
        faultWrong();
        core();
        clockStates();
        clockReset();
        clockInstructions();
        clockData();
        clockBoundary();
        clockChain();
        state();
        look();
        value();
        find();
        findGoesWithZeros();
        found();
        test();
        testRounds();
        testFromAnyState();
        saw();
        clocks();
        CHECK.end();
    }

    private static void newObject() {
        ChainBench x = new ChainBench();
        CHECK.due("P1 state", x.state(), 0);
        CHECK.due("P1 clocks", x.clocks(), 0);
        CHECK.dueThrow("P1 net", Checks.ARGUMENT, () -> x.net(0, 0, 0, 1));
        CHECK.dueThrow("P1 fault", Checks.ARGUMENT, () -> x.fault(0, -1, 0));
        CHECK.dueThrow("P1 core", Checks.ARGUMENT, () -> x.core(0, 0, true));
        CHECK.dueThrow("P1 clock", Checks.STATE, () -> x.clock(false, false));
        CHECK.dueThrow("P1 look", Checks.ARGUMENT, () -> x.look(0, 0));
        CHECK.dueThrow("P1 value", Checks.ARGUMENT, () -> x.value(0));
        CHECK.dueThrow("P1 find", Checks.STATE, () -> x.find());
        CHECK.dueThrow("P1 found", Checks.INDEX, () -> x.found(0));
        CHECK.dueThrow("P1 test", Checks.STATE, () -> x.test());
        CHECK.dueThrow("P1 saw", Checks.INDEX, () -> x.saw(0));
        CHECK.due("P1 clocks after refused ones", x.clocks(), 0);
        CHECK.due("P1 first device", x.device(2, 1, 2, 1), 0);
        CHECK.due("P1 first net", x.net(0, 0, 0, 1), 0);
    }

    private static void device() {
        ChainBench x = new ChainBench();
        CHECK.due("P2 least", x.device(2, 1, 1, 0), 0);
        CHECK.due("P2 most", x.device(4, Integer.MAX_VALUE, 6, -1), 1);
        CHECK.due("P2 negative identity", x.device(3, Integer.MIN_VALUE + 1, 3, 0b111_010), 2);
        CHECK.due("P2 last", x.device(2, -3, 6, 0b101010), 3);
        for (int d = 0; d < 4; d++) {
            CHECK.due("P2 instruction of " + d, x.look(d, 0), 1);
            for (int what = 1; what <= 3; what++) {
                CHECK.due("P2 look " + d + " " + what, x.look(d, what), 0);
            }
        }
        dueDrivers(x, 0, 1, 0);
        dueDrivers(x, 1, 6, 0b111111);
        dueDrivers(x, 2, 3, 0b010);
        dueDrivers(x, 3, 6, 0b101010);
    }

    private static void dueDrivers(ChainBench x, int device, int cells, int drivers) {
        for (int c = 0; c < 8; c++) {
            int cell = c;
            boolean drives = c < cells && (drivers >> c & 1) == 1;
            String got = Checks.thrownBy(() -> x.core(device, cell, true));
            CHECK.dueText("P2 core " + device + " " + c, got, drives ? "nothing thrown" : "IllegalArgumentException");
        }
        CHECK.due("P2 signals of " + device, x.look(device, 3), drivers & (1 << cells) - 1);
    }

    private static void deviceWrong() {
        ChainBench x = new ChainBench();
        x.device(2, 5, 2, 1);
        x.net(0, 0, 0, 1);
        x.core(0, 0, true);
        x.find();
        x.test();
        int clocks = x.clocks();
        for (int d = 0; d < 2; d++) {
            dueRefused(x);
            CHECK.due("P2 state after refusal", x.state(), 1);
            CHECK.due("P2 clocks after refusal", x.clocks(), clocks);
            CHECK.due("P2 found after refusal", x.found(0), 5);
            CHECK.due("P2 saw after refusal", x.saw(0), 1);
        }
        for (int d = 1; d < 4; d++) {
            CHECK.due("P2 number", x.device(3, 7, 2, 1), d);
        }
        x.core(0, 0, true);
        CHECK.dueThrow("P2 fifth", Checks.STATE, () -> x.device(2, 5, 2, 1));
        dueRefused(x);
        CHECK.due("P2 core after the fifth", x.look(0, 3), 3);
        CHECK.due("P2 count after the fifth", x.find(), 4);
    }

    private static void dueRefused(ChainBench x) {
        CHECK.dueThrow("P2 bits 1", Checks.ARGUMENT, () -> x.device(1, 1, 1, 1));
        CHECK.dueThrow("P2 bits 5", Checks.ARGUMENT, () -> x.device(5, 1, 1, 1));
        CHECK.dueThrow("P2 bits -2", Checks.ARGUMENT, () -> x.device(-2, 1, 1, 1));
        CHECK.dueThrow("P2 bits least", Checks.ARGUMENT, () -> x.device(Integer.MIN_VALUE, 1, 1, 1));
        CHECK.dueThrow("P2 identity 0", Checks.ARGUMENT, () -> x.device(2, 0, 1, 1));
        CHECK.dueThrow("P2 identity -2", Checks.ARGUMENT, () -> x.device(2, -2, 1, 1));
        CHECK.dueThrow("P2 identity all ones", Checks.ARGUMENT, () -> x.device(2, -1, 1, 1));
        CHECK.dueThrow("P2 cells 0", Checks.ARGUMENT, () -> x.device(2, 1, 0, 1));
        CHECK.dueThrow("P2 cells 7", Checks.ARGUMENT, () -> x.device(2, 1, 7, 1));
        CHECK.dueThrow("P2 cells -1", Checks.ARGUMENT, () -> x.device(2, 1, -1, 1));
    }

    private static void deviceRestartsAll() {
        ChainBench x = new ChainBench();
        x.device(3, 5, 2, 1);
        x.net(0, 0, 0, 1);
        x.core(0, 0, true);
        x.test();
        Hand.scanI(x, "000");
        Hand.scanD(x, "11");
        CHECK.due("P2 latch before", x.look(0, 2), 1);
        CHECK.due("P2 signals before", x.look(0, 3), 3);
        Hand.go(x, "1100");
        x.clock(false, true);
        CHECK.due("P2 shift register before", x.look(0, 1), 0b100);
        x.device(2, 9, 1, 1);
        CHECK.due("P2 state after", x.state(), 0);
        CHECK.due("P2 instruction after", x.look(0, 0), 1);
        CHECK.due("P2 shift register stays", x.look(0, 1), 0b100);
        CHECK.due("P2 latch after", x.look(0, 2), 0);
        CHECK.due("P2 signals after", x.look(0, 3), 0);
        CHECK.due("P2 clocks after", x.clocks(), 0);
        Hand.go(x, "0");
        Hand.scanI(x, "00000");
        CHECK.due("P2 latch after, driven", x.look(0, 3), 0);
        CHECK.due("P2 net stays", x.test(), 0);
        x.fault(0, 1, 0);
        x.device(2, 11, 1, 1);
        CHECK.due("P2 fault stays", x.value(0), true);
    }

    private static void net() {
        ChainBench x = new ChainBench();
        x.device(2, 1, 6, 0b000111);
        x.device(2, 3, 6, 0b000111);
        x.device(2, 5, 6, 0b000111);
        CHECK.due("P3 in one device", x.net(0, 0, 0, 5), 0);
        CHECK.due("P3 forward", x.net(0, 1, 2, 3), 1);
        CHECK.due("P3 back", x.net(2, 0, 0, 3), 2);
        CHECK.due("P3 no fault", x.test(), 0);
        x.fault(0, 0, 0);
        CHECK.due("P3 after a fault", x.net(1, 0, 1, 3), 3);
        CHECK.due("P3 the new one has none", x.test(), 1);
        Hand.go(x, "11111");
        x.core(1, 0, true);
        CHECK.due("P3 value of the new one", x.value(3), true);
        CHECK.due("P3 signals of its device", x.look(1, 3), 0b001001);
        CHECK.due("P3 fifth", x.net(1, 1, 1, 4), 4);
        CHECK.due("P3 sixth", x.net(1, 2, 1, 5), 5);
        CHECK.due("P3 seventh", x.net(2, 1, 2, 4), 6);
        CHECK.due("P3 eighth", x.net(2, 2, 2, 5), 7);
        CHECK.dueThrow("P3 ninth", Checks.STATE, () -> x.net(0, 2, 0, 4));
        CHECK.dueThrow("P3 ninth with wrong cells", Checks.ARGUMENT, () -> x.net(0, 0, 0, 4));
        CHECK.dueThrow("P3 no ninth value", Checks.ARGUMENT, () -> x.value(8));
        x.core(0, 2, true);
        CHECK.due("P3 the ninth's receiver has no net", x.look(0, 3), 0b000100);
    }

    private static void netWrong() {
        ChainBench x = new ChainBench();
        x.device(2, 1, 4, 0b0011);
        x.device(2, 3, 3, 0b001);
        CHECK.due("P3 first", x.net(0, 0, 1, 1), 0);
        x.test();
        for (int bad : BAD_NUMBERS) {
            CHECK.dueThrow("P3 device " + bad, Checks.ARGUMENT, () -> x.net(bad, 0, 1, 1));
            CHECK.dueThrow("P3 cell " + bad, Checks.ARGUMENT, () -> x.net(0, bad, 1, 2));
            CHECK.dueThrow("P3 to device " + bad, Checks.ARGUMENT, () -> x.net(0, 1, bad, 2));
            CHECK.dueThrow("P3 to cell " + bad, Checks.ARGUMENT, () -> x.net(0, 1, 1, bad));
        }
        CHECK.dueThrow("P3 device 2", Checks.ARGUMENT, () -> x.net(2, 0, 1, 2));
        CHECK.dueThrow("P3 to device 2", Checks.ARGUMENT, () -> x.net(0, 1, 2, 2));
        CHECK.dueThrow("P3 cell 4", Checks.ARGUMENT, () -> x.net(0, 4, 1, 2));
        CHECK.dueThrow("P3 to cell 3", Checks.ARGUMENT, () -> x.net(0, 1, 1, 3));
        CHECK.dueThrow("P3 from a receiver", Checks.ARGUMENT, () -> x.net(0, 2, 1, 2));
        CHECK.dueThrow("P3 to a driver", Checks.ARGUMENT, () -> x.net(0, 1, 1, 0));
        CHECK.dueThrow("P3 to itself", Checks.ARGUMENT, () -> x.net(0, 1, 0, 1));
        CHECK.dueThrow("P3 driver on a net", Checks.ARGUMENT, () -> x.net(0, 0, 1, 2));
        CHECK.dueThrow("P3 receiver on a net", Checks.ARGUMENT, () -> x.net(0, 1, 1, 1));
        CHECK.due("P3 refusal leaves the test", x.saw(0), 1);
        CHECK.dueThrow("P3 refusal makes none", Checks.ARGUMENT, () -> x.value(1));
        CHECK.due("P3 refusal wires none", x.net(0, 1, 1, 2), 1);
        CHECK.due("P3 the same cells of others", x.net(1, 0, 0, 2), 2);
    }

    /** The nets' values for all core bits, when net 0 and net 1 are as said and 2 and 3 have no fault. */
    private static void dueTable(String what, ChainBench x, String table) {
        for (int cores = 0; cores < 4; cores++) {
            Hand.setCores(x, cores | 0b1000);
            int want = 0b1000 | (table.charAt(cores) - '0');
            CHECK.due("P4 " + what + " with cores " + cores, Hand.values(x), want);
            CHECK.due("P4 " + what + " seen with cores " + cores, x.look(1, 3), want);
            CHECK.due("P4 " + what + " driven with cores " + cores, x.look(0, 3), cores | 0b1000);
        }
    }

    private static void fault() {
        ChainBench x = Benches.fourNets();
        dueTable("none", x, "0123");
        x.fault(0, 0, 0);
        dueTable("stuck at 0", x, "0022");
        x.fault(0, 1, -7);
        dueTable("stuck at 1", x, "1133");
        x.fault(1, 0, 99);
        dueTable("stuck at 1 and 0", x, "1111");
        x.fault(0, -1, 99);
        dueTable("the other stuck at 0", x, "0101");
        x.fault(0, 2, 1);
        dueTable("shorted by AND", x, "0003");
        x.fault(1, 3, 0);
        dueTable("shorted by OR", x, "0333");
        x.fault(1, -1, 0);
        dueTable("none any more", x, "0123");
        x.fault(1, -1, 0);
        dueTable("none still", x, "0123");
    }

    private static void faultInPlaceOfOthers() {
        ChainBench x = Benches.fourNets();
        x.fault(0, 3, 1);
        x.fault(1, 3, 2);
        Hand.setCores(x, 0b0001);
        CHECK.due("P4 a net shorted anew frees its first partner", Hand.values(x), 0b0001);
        Hand.setCores(x, 0b0010);
        CHECK.due("P4 the new short", Hand.values(x), 0b0110);
        x.fault(0, 3, 2);
        Hand.setCores(x, 0b0001);
        CHECK.due("P4 the second one's partner is freed too", Hand.values(x), 0b0101);
        Hand.setCores(x, 0b0010);
        CHECK.due("P4 it stands alone", Hand.values(x), 0b0010);
        x.fault(1, 3, 3);
        x.fault(0, 2, 1);
        Hand.setCores(x, 0b1101);
        CHECK.due("P4 both partners are freed", Hand.values(x), 0b1100);
        x.fault(1, 1, 0);
        Hand.setCores(x, 0b0000);
        CHECK.due("P4 stuck in place of a short", Hand.values(x), 0b0010);
        Hand.setCores(x, 0b0001);
        CHECK.due("P4 the partner of it is free", Hand.values(x), 0b0011);
        x.fault(2, 2, 1);
        Hand.setCores(x, 0b0100);
        CHECK.due("P4 a short in place of stuck", Hand.values(x), 0b0000);
        x.fault(2, -1, 3);
        CHECK.due("P4 both free", Hand.values(x), 0b0100);
        x.fault(2, 3, 3);
        x.fault(3, 2, 2);
        CHECK.due("P4 the same two shorted by another kind", Hand.values(x), 0b0000);
    }

    private static void faultWrong() {
        ChainBench x = Benches.fourNets();
        x.fault(0, 3, 1);
        for (int bad : BAD_NUMBERS) {
            for (int kind = -1; kind <= 3; kind++) {
                int k = kind;
                CHECK.dueThrow("P4 net " + bad, Checks.ARGUMENT, () -> x.fault(bad, k, 0));
            }
            CHECK.dueThrow("P4 other " + bad, Checks.ARGUMENT, () -> x.fault(0, 2, bad));
            CHECK.dueThrow("P4 other " + bad, Checks.ARGUMENT, () -> x.fault(0, 3, bad));
        }
        CHECK.dueThrow("P4 net 4", Checks.ARGUMENT, () -> x.fault(4, 0, 0));
        CHECK.dueThrow("P4 other 4", Checks.ARGUMENT, () -> x.fault(0, 2, 4));
        CHECK.dueThrow("P4 kind -2", Checks.ARGUMENT, () -> x.fault(0, -2, 1));
        CHECK.dueThrow("P4 kind 4", Checks.ARGUMENT, () -> x.fault(0, 4, 1));
        CHECK.dueThrow("P4 with itself by AND", Checks.ARGUMENT, () -> x.fault(1, 2, 1));
        CHECK.dueThrow("P4 with itself by OR", Checks.ARGUMENT, () -> x.fault(1, 3, 1));
        dueTable("left by refusals", x, "0333");
        x.fault(0, -1, 0);
        x.fault(1, 0, 1);
        dueTable("itself is of no matter for others", x, "0101");
    }

    private static void core() {
        ChainBench x = new ChainBench();
        x.device(2, 1, 3, 0b101);
        x.device(2, 3, 2, 0b10);
        x.core(0, 2, true);
        CHECK.due("P5 set", x.look(0, 3), 0b100);
        x.core(0, 0, true);
        CHECK.due("P5 set another", x.look(0, 3), 0b101);
        x.core(0, 2, false);
        CHECK.due("P5 taken back", x.look(0, 3), 0b001);
        CHECK.due("P5 of no other device", x.look(1, 3), 0);
        CHECK.due("P5 no latch", x.look(0, 2), 0);
        for (int bad : BAD_NUMBERS) {
            CHECK.dueThrow("P5 device " + bad, Checks.ARGUMENT, () -> x.core(bad, 0, true));
            CHECK.dueThrow("P5 cell " + bad, Checks.ARGUMENT, () -> x.core(0, bad, true));
        }
        CHECK.dueThrow("P5 device 2", Checks.ARGUMENT, () -> x.core(2, 0, true));
        CHECK.dueThrow("P5 cell 3", Checks.ARGUMENT, () -> x.core(0, 3, true));
        CHECK.dueThrow("P5 receiver", Checks.ARGUMENT, () -> x.core(0, 1, true));
        CHECK.dueThrow("P5 receiver set to 0", Checks.ARGUMENT, () -> x.core(0, 1, false));
        CHECK.dueThrow("P5 cell of another device", Checks.ARGUMENT, () -> x.core(1, 2, true));
        Hand.go(x, "0");
        Hand.scanI(x, "0000");
        CHECK.due("P5 hidden by EXTEST", x.look(0, 3), 0);
        x.core(0, 2, true);
        CHECK.due("P5 hidden when set in EXTEST", x.look(0, 3), 0);
        Hand.scanI(x, "1111");
        CHECK.due("P5 seen again", x.look(0, 3), 0b101);
    }

    private static void clockStates() {
        CHECK.dueThrow("P6 no device", Checks.STATE, () -> new ChainBench().clock(true, true));
        for (int s = 0; s < 16; s++) {
            for (int tms = 0; tms < 2; tms++) {
                ChainBench x = new ChainBench();
                x.device(2, 1, 1, 1);
                Hand.go(x, Hand.WAYS[s]);
                CHECK.due("P7 state by " + Hand.WAYS[s], x.state(), s);
                x.clock(tms == 1, true);
                CHECK.due("P6 from " + s + " by TMS " + tms, x.state(), NEXT[s][tms]);
                CHECK.due("P14 clocks", x.clocks(), Hand.WAYS[s].length() + 1);
            }
        }
    }

    private static void clockReset() {
        ChainBench x = new ChainBench();
        x.device(3, 5, 2, 3);
        Hand.go(x, "0");
        Hand.scanI(x, "000");
        Hand.scanD(x, "11");
        Hand.go(x, "11");
        CHECK.due("P6 EXTEST until RESET", x.look(0, 0), 0);
        Hand.go(x, "1");
        CHECK.due("P6 RESET is done at once", x.look(0, 0), 1);
        CHECK.due("P6 RESET keeps latches", x.look(0, 2), 3);
        CHECK.due("P6 RESET keeps the shift register", x.look(0, 1), 0);
        Hand.go(x, "0");
        Hand.scanI(x, "000");
        CHECK.due("P6 latches drive again", x.look(0, 3), 3);
    }

    private static void clockInstructions() {
        ChainBench x = new ChainBench();
        x.device(4, 5, 2, 3);
        Hand.go(x, "0110");
        CHECK.due("P6 before CAPTURE-I is done", x.look(0, 1), 0);
        Hand.go(x, "0");
        CHECK.due("P6 CAPTURE-I", x.look(0, 1), 1);
        CHECK.due("P6 the 1 comes out", x.clock(false, true), true);
        CHECK.due("P6 SHIFT-I", x.look(0, 1), 0b1000);
        CHECK.due("P6 a 0 comes out", x.clock(false, false), false);
        CHECK.due("P6 SHIFT-I again", x.look(0, 1), 0b0100);
        CHECK.due("P6 leaving SHIFT-I shifts too", x.clock(true, true), false);
        CHECK.due("P6 SHIFT-I the last", x.look(0, 1), 0b1010);
        CHECK.due("P6 EXIT1-I gives nothing out", x.clock(true, true), false);
        CHECK.due("P6 before UPDATE-I is done", x.look(0, 0), 1);
        CHECK.due("P6 UPDATE-I gives nothing out", x.clock(false, true), false);
        CHECK.due("P6 UPDATE-I", x.look(0, 0), 0b1010);
        Hand.go(x, "11001");
        CHECK.due("P6 the bit that stays", x.look(0, 1), 0);
        Hand.go(x, "01");
        CHECK.due("P6 PAUSE-I and EXIT2-I keep", x.look(0, 1), 0);
        Hand.go(x, "10");
        CHECK.due("P6 instruction 0", x.look(0, 0), 0);
        Hand.go(x, "1101");
        Hand.go(x, "10");
        CHECK.due("P6 CAPTURE-I straight to UPDATE-I", x.look(0, 0), 1);
    }

    private static void clockData() {
        for (int instruction = 0; instruction < 16; instruction++) {
            ChainBench x = new ChainBench();
            x.device(4, 0x8000_0005, 3, 0b101);
            x.core(0, 0, true);
            Hand.go(x, "0");
            Hand.scanI(x, Hand.bits(instruction, 4));
            CHECK.due("P6 instruction", x.look(0, 0), instruction);
            String in = "1011" + "0".repeat(36);
            String captured = instruction == 0 ? "000" : instruction == 2 ? "100"
                : instruction == 1 ? Hand.bits(0x8000_0005, 32) : "0";
            String want = (captured + in).substring(0, 40);
            CHECK.dueText("P6 data of instruction " + instruction, Hand.scanD(x, in), want);
        }
    }

    private static void clockBoundary() {
        ChainBench x = new ChainBench();
        x.device(2, 5, 3, 0b011);
        x.net(0, 1, 0, 2);
        x.core(0, 1, true);
        Hand.go(x, "0");
        Hand.scanI(x, "01");
        CHECK.dueText("P6 SAMPLE captures core and net", Hand.scanD(x, "101"), "011");
        CHECK.due("P6 SAMPLE updates drivers alone", x.look(0, 2), 0b001);
        CHECK.due("P6 SAMPLE does not drive", x.look(0, 3), 0b110);
        Hand.scanI(x, "00");
        CHECK.due("P6 EXTEST drives", x.look(0, 3), 0b001);
        CHECK.dueText("P6 EXTEST captures latches", Hand.scanD(x, "011"), "100");
        CHECK.due("P6 EXTEST updates", x.look(0, 2), 0b010);
        CHECK.due("P6 EXTEST drives the net", x.value(0), true);
        Hand.scanI(x, "10");
        Hand.scanD(x, "000");
        Hand.scanI(x, "11");
        Hand.scanD(x, "000");
        CHECK.due("P6 IDENTITY and BYPASS leave latches", x.look(0, 2), 0b010);
        Hand.scanI(x, "00");
        Hand.go(x, "10");
        x.core(0, 0, true);
        Hand.go(x, "11");
        CHECK.due("P6 before UPDATE-D is done", x.look(0, 2), 0b010);
        Hand.go(x, "0");
        CHECK.due("P6 captured latches come back", x.look(0, 2), 0b010);
        Hand.go(x, "100");
        x.clock(true, true);
        Hand.go(x, "0011");
        CHECK.due("P6 no update before UPDATE-D", x.look(0, 2), 0b010);
        Hand.go(x, "0");
        CHECK.due("P6 one bit shifted, kept through the pause", x.look(0, 2), 0b011);
    }

    private static void clockChain() {
        ChainBench x = new ChainBench();
        x.device(2, 0x1111_1111, 1, 1);
        x.device(3, 0x2222_2223, 2, 3);
        x.device(4, 0x4444_4445, 6, 0b111111);
        Hand.go(x, "0");
        CHECK.dueText("P6 identities, the last one first", Hand.scanD(x, "1".repeat(100)),
            Hand.bits(0x4444_4445, 32) + Hand.bits(0x2222_2223, 32) + Hand.bits(0x1111_1111, 32) + "1111");
        CHECK.dueText("P6 instruction registers hold 1 each", Hand.scanI(x, "0000" + "110" + "11"), "100010010");
        CHECK.due("P6 instruction 2", x.look(2, 0), 0);
        CHECK.due("P6 instruction 1", x.look(1, 0), 3);
        CHECK.due("P6 instruction 0", x.look(0, 0), 3);
        CHECK.dueText("P6 boundary and two bypasses", Hand.scanD(x, "1011011100"), "0000000010");
        CHECK.due("P6 latches behind the bypasses", x.look(2, 2), 0b111011);
        CHECK.dueText("P6 the same bits come back", Hand.scanD(x, "00000000"), Hand.bits(0b111011, 6) + "00");
        CHECK.due("P6 their latches are of no other", x.look(1, 2), 0);
    }

    private static void state() {
        ChainBench x = new ChainBench();
        CHECK.due("P7 no device", x.state(), 0);
        x.device(2, 1, 2, 1);
        CHECK.due("P7 a new device", x.state(), 0);
        Hand.go(x, "0110");
        CHECK.due("P7 after clocks", x.state(), 10);
        x.find();
        CHECK.due("P7 after find", x.state(), 1);
        Hand.go(x, "1");
        x.net(0, 0, 0, 1);
        CHECK.due("P7 a net changes nothing", x.state(), 2);
        x.test();
        CHECK.due("P7 after test", x.state(), 1);
        x.device(2, 1, 2, 1);
        CHECK.due("P7 after one more device", x.state(), 0);
    }

    private static void look() {
        ChainBench x = new ChainBench();
        x.device(3, 1, 3, 0b011);
        x.device(2, 3, 2, 0b10);
        x.net(0, 1, 1, 0);
        Hand.go(x, "0");
        Hand.scanI(x, "00010");
        CHECK.due("P8 instruction of 0", x.look(0, 0), 2);
        CHECK.due("P8 instruction of 1", x.look(1, 0), 0);
        CHECK.due("P8 shift register of 0", x.look(0, 1), 2);
        Hand.scanD(x, "11" + "111");
        CHECK.due("P8 latches of 0 without receivers", x.look(0, 2), 0b011);
        CHECK.due("P8 latches of 1 without receivers", x.look(1, 2), 0b10);
        CHECK.due("P8 signals of 0 are its cores", x.look(0, 3), 0);
        CHECK.due("P8 signals of 1 are its latches", x.look(1, 3), 0b10);
        x.core(0, 1, true);
        CHECK.due("P8 a receiver sees its net", x.look(1, 3), 0b11);
        CHECK.due("P8 a receiver without a net sees 0", x.look(0, 3), 0b010);
        for (int bad : BAD_NUMBERS) {
            CHECK.dueThrow("P8 device " + bad, Checks.ARGUMENT, () -> x.look(bad, 0));
            CHECK.dueThrow("P8 what " + bad, Checks.ARGUMENT, () -> x.look(0, bad));
        }
        CHECK.dueThrow("P8 device 2", Checks.ARGUMENT, () -> x.look(2, 0));
        CHECK.dueThrow("P8 what 4", Checks.ARGUMENT, () -> x.look(0, 4));
    }

    private static void value() {
        ChainBench x = Benches.fourNets();
        Hand.setCores(x, 0b0110);
        CHECK.due("P9 cores", Hand.values(x), 0b0110);
        Hand.go(x, "0");
        Hand.scanI(x, "00000");
        CHECK.due("P9 latches in EXTEST", Hand.values(x), 0);
        Hand.scanD(x, "0000" + "1001");
        CHECK.due("P9 new latches", Hand.values(x), 0b1001);
        x.fault(0, 2, 1);
        CHECK.due("P9 shorted latches", Hand.values(x), 0b1000);
        Hand.go(x, "111");
        CHECK.due("P9 cores after RESET", Hand.values(x), 0b0100);
        for (int bad : BAD_NUMBERS) {
            CHECK.dueThrow("P9 net " + bad, Checks.ARGUMENT, () -> x.value(bad));
        }
        CHECK.dueThrow("P9 net 4", Checks.ARGUMENT, () -> x.value(4));
    }

    private static void find() {
        CHECK.dueThrow("P10 no device", Checks.STATE, () -> new ChainBench().find());
        for (int count = 1; count <= 4; count++) {
            for (int s = 0; s < 16; s++) {
                dueFound(count, s);
            }
        }
    }

    private static void dueFound(int count, int from) {
        int[] identities = {1, Integer.MAX_VALUE, -3, Integer.MIN_VALUE + 1};
        ChainBench x = new ChainBench();
        for (int d = 0; d < count; d++) {
            x.device(2 + d % 3, identities[d], d + 1, d);
        }
        Hand.go(x, Hand.WAYS[from]);
        CHECK.due("P10 find of " + count, x.find(), count);
        CHECK.due("P10 clocks of find", x.clocks(), Hand.WAYS[from].length() + 171);
        CHECK.due("P10 state after find", x.state(), 1);
        for (int k = 0; k < count; k++) {
            CHECK.due("P10 instruction after find", x.look(k, 0), 1);
            CHECK.due("P11 found " + k, x.found(k), identities[k]);
        }
    }

    private static void findGoesWithZeros() {
        ChainBench x = new ChainBench();
        x.device(2, 7, 4, 0b1111);
        Hand.go(x, "0");
        Hand.scanI(x, "00");
        Hand.scanD(x, "1111");
        Hand.go(x, "100");
        x.find();
        CHECK.due("P10 the way to IDLE shifts one 0 in and updates", x.look(0, 2), 0b0111);
        CHECK.due("P10 found after it", x.found(0), 7);
    }

    private static void found() {
        ChainBench x = new ChainBench();
        CHECK.dueThrow("P11 nothing found", Checks.INDEX, () -> x.found(0));
        x.device(2, 7, 2, 1);
        CHECK.dueThrow("P11 not yet found", Checks.INDEX, () -> x.found(0));
        x.find();
        CHECK.due("P11 found 0", x.found(0), 7);
        CHECK.dueThrow("P11 found 1 of 1", Checks.INDEX, () -> x.found(1));
        for (int bad : BAD_NUMBERS) {
            CHECK.dueThrow("P11 found " + bad, Checks.INDEX, () -> x.found(bad));
        }
        x.net(0, 0, 0, 1);
        x.test();
        Hand.go(x, "1111100");
        CHECK.due("P11 still found", x.found(0), 7);
        x.device(2, 9, 2, 1);
        CHECK.dueThrow("P11 no more since a device came", Checks.INDEX, () -> x.found(0));
        x.find();
        CHECK.due("P11 first of two", x.found(0), 7);
        CHECK.due("P11 second of two", x.found(1), 9);
        CHECK.dueThrow("P11 third of two", Checks.INDEX, () -> x.found(2));
    }

    private static void test() {
        ChainBench x = new ChainBench();
        CHECK.dueThrow("P12 no device", Checks.STATE, () -> x.test());
        x.device(2, 1, 2, 0b01);
        CHECK.dueThrow("P12 no net", Checks.STATE, () -> x.test());
        CHECK.due("P12 a refused test makes no clock", x.clocks(), 0);
        x.device(4, 3, 3, 0b100);
        x.net(0, 0, 1, 0);
        x.net(1, 2, 0, 1);
        x.core(0, 0, true);
        CHECK.due("P12 none faulty", x.test(), 0);
        CHECK.due("P12 clocks", x.clocks(), 6 + 12 + 2 * 2 * 10);
        CHECK.due("P12 EXTEST in 0", x.look(0, 0), 0);
        CHECK.due("P12 EXTEST in 1", x.look(1, 0), 0);
        CHECK.due("P12 latches of 0 in the last round", x.look(0, 2), 0);
        CHECK.due("P12 latches of 1 in the last round", x.look(1, 2), 0b100);
        x.fault(1, 0, 0);
        CHECK.due("P12 one faulty", x.test(), 1);
        x.fault(0, 3, 1);
        CHECK.due("P12 two faulty", x.test(), 2);
        x.fault(0, -1, 0);
        CHECK.due("P12 none any more", x.test(), 0);
    }

    private static void testRounds() {
        int[] rounds = {0, 2, 2, 3, 3, 3, 3, 4, 4};
        ChainBench x = new ChainBench();
        x.device(2, 1, 6, 0b111111);
        x.device(3, 3, 6, 0b000011);
        x.device(4, 5, 6, 0);
        x.device(2, 7, 1, 1);
        for (int n = 0; n < 8; n++) {
            x.net(n < 6 ? 0 : 1, n % 6, n < 4 ? 1 : 2, n < 4 ? n + 2 : n - 4);
            int before = x.clocks();
            CHECK.due("P12 of " + (n + 1), x.test(), 0);
            CHECK.due("P12 clocks of " + (n + 1), x.clocks() - before, 6 + 17 + rounds[n + 1] * 2 * 24);
            x.fault(n, 1, 0);
            CHECK.due("P12 stuck at 1 of " + (n + 1), x.test(), 1);
            CHECK.due("P13 stuck at 1 of " + (n + 1), x.saw(n), (1 << rounds[n + 1]) - 1);
            x.fault(n, 0, 0);
            CHECK.due("P12 stuck at 0 of " + (n + 1), x.test(), 1);
            CHECK.due("P13 stuck at 0 of " + (n + 1), x.saw(n), 0);
            x.fault(n, -1, 0);
        }
        x.fault(7, 3, 0);
        CHECK.due("P12 short of 0 and 7", x.test(), 2);
        CHECK.due("P13 short of 0", x.saw(0), 9);
        CHECK.due("P13 short of 7", x.saw(7), 9);
        x.fault(2, 2, 0);
        CHECK.due("P12 short by AND that one of them does not show", x.test(), 1);
        CHECK.due("P13 short by AND of 0", x.saw(0), 1);
        CHECK.due("P13 short by AND of 2", x.saw(2), 1);
    }

    private static void testFromAnyState() {
        ChainBench x = Benches.fourNets();
        for (int s = 0; s < 16; s++) {
            Hand.go(x, "11111" + Hand.WAYS[s]);
            CHECK.due("P12 from state " + s, x.test(), 0);
            CHECK.due("P12 state after", x.state(), 1);
            for (int n = 0; n < 4; n++) {
                CHECK.due("P13 saw", x.saw(n), n + 1);
            }
        }
    }

    private static void saw() {
        ChainBench x = new ChainBench();
        CHECK.dueThrow("P13 nothing there", Checks.INDEX, () -> x.saw(0));
        x.device(2, 1, 4, 0b0011);
        x.net(0, 0, 0, 2);
        CHECK.dueThrow("P13 not yet tested", Checks.INDEX, () -> x.saw(0));
        x.test();
        CHECK.due("P13 tested", x.saw(0), 1);
        CHECK.dueThrow("P13 net 1 of 1", Checks.INDEX, () -> x.saw(1));
        for (int bad : BAD_NUMBERS) {
            CHECK.dueThrow("P13 net " + bad, Checks.INDEX, () -> x.saw(bad));
        }
        x.fault(0, 0, 0);
        x.find();
        CHECK.due("P13 a fault alone is not seen", x.saw(0), 1);
        x.test();
        CHECK.due("P13 the latest test", x.saw(0), 0);
        x.net(0, 1, 0, 3);
        CHECK.dueThrow("P13 no test since a net came", Checks.INDEX, () -> x.saw(0));
        CHECK.dueThrow("P13 nor of the new one", Checks.INDEX, () -> x.saw(1));
        x.test();
        CHECK.due("P13 tested again", x.saw(1), 2);
        x.device(2, 3, 1, 1);
        CHECK.dueThrow("P13 no test since a device came", Checks.INDEX, () -> x.saw(1));
        x.test();
        CHECK.due("P13 tested with the device", x.saw(1), 2);
    }

    private static void clocks() {
        ChainBench x = new ChainBench();
        CHECK.due("P14 new", x.clocks(), 0);
        x.device(2, 1, 2, 1);
        CHECK.due("P14 device", x.clocks(), 0);
        Hand.go(x, "1010");
        x.net(0, 0, 0, 1);
        x.look(0, 3);
        x.core(0, 0, true);
        x.fault(0, 1, 0);
        x.value(0);
        x.state();
        CHECK.due("P14 clocks alone count", x.clocks(), 4);
        x.find();
        CHECK.due("P14 those of find count", x.clocks(), 175);
        x.test();
        CHECK.due("P14 those of test count", x.clocks(), 175 + 6 + 8 + 2 * 2 * 7);
        x.device(2, 1, 2, 1);
        CHECK.due("P14 none since the device", x.clocks(), 0);
    }
}
