/** For each sentence of the document's Terms that names a boundary, a test of its own. */
public final class TermsTest {
    private static final int[][] NEXT = {
        {1, 0}, {1, 2}, {3, 9}, {4, 5}, {4, 5}, {6, 8}, {6, 7}, {4, 8},
        {1, 2}, {10, 0}, {11, 12}, {11, 12}, {13, 15}, {13, 14}, {11, 15}, {1, 2}};
    private static final int SHIFT_D = 4;
    private static final int SHIFT_I = 11;

    private static final Checks CHECK = new Checks("TermsTest");

    public static void main(String[] args) {
        devices();
        statesAndInstructions();
        clocks();
        board();
        CHECK.end();
    }

    private static void devices() {
        CHECK.sentence("an object is used for at most 512 calls", TermsTest::lastOf512Calls);
        CHECK.sentence("devices 0, 1, .., at most 4, stand in a chain", TermsTest::fourDevices);
        CHECK.sentence("what goes in (TDI) goes into device 0", TermsTest::tdiGoesIntoTheFirst);
        CHECK.sentence("what comes out of each goes into the next one", TermsTest::eachGoesIntoTheNext);
        CHECK.sentence("what comes out of the last one is TDO", TermsTest::lastOneIsTdo);
        CHECK.sentence("an instruction register of 2 to 4 bits", TermsTest::instructionRegisterLengths);
        CHECK.sentence("an identity of 32 bits whose lowest bit is 1", TermsTest::identityOf32Bits);
        CHECK.sentence("1 to 6 cells", TermsTest::cellCounts);
        CHECK.sentence("each of which drives or sees", TermsTest::eachCellDrivesOrSees);
    }

    private static void statesAndInstructions() {
        CHECK.sentence("states, and where TMS 0 leads", () -> everyStep(0));
        CHECK.sentence("states, and where TMS 1 leads", () -> everyStep(1));
        CHECK.sentence("RESET, IDLE, SHIFT and PAUSE lead to themselves", TermsTest::statesThatStay);
        CHECK.sentence("instructions: 0 EXTEST", TermsTest::instruction0);
        CHECK.sentence("instructions: 1 IDENTITY", TermsTest::instruction1);
        CHECK.sentence("instructions: 2 SAMPLE", TermsTest::instruction2);
        CHECK.sentence("all others BYPASS", TermsTest::allOthersBypass);
        CHECK.sentence("of EXTEST and SAMPLE the boundary, cell 0 the lowest one", TermsTest::boundaryLength);
        CHECK.sentence("of IDENTITY 32 bits", TermsTest::identityLength);
        CHECK.sentence("of BYPASS 1 bit", TermsTest::bypassLength);
    }

    private static void clocks() {
        CHECK.sentence("all devices are in one state", TermsTest::oneState);
        CHECK.sentence("RESET: the instruction is IDENTITY", TermsTest::resetGivesIdentity);
        CHECK.sentence("in which RESET is done at once, too", TermsTest::resetAtOnce);
        CHECK.sentence("first what s does, then the next state", TermsTest::stateActsWhenLeft);
        CHECK.sentence("CAPTURE-D: of the boundary, for each cell its signal", TermsTest::captureBoundary);
        CHECK.sentence("CAPTURE-D: the identity", TermsTest::captureIdentity);
        CHECK.sentence("CAPTURE-D: 0", TermsTest::captureBypass);
        CHECK.sentence("CAPTURE-I: the shift register becomes 1", TermsTest::captureInstruction);
        CHECK.sentence("each register goes down by one bit", TermsTest::registerGoesDown);
        CHECK.sentence("SHIFT is done by its last clock too", TermsTest::lastShift);
        CHECK.sentence("PAUSE and EXIT keep the registers", TermsTest::pauseKeeps);
        CHECK.sentence("UPDATE-D: of EXTEST and SAMPLE", TermsTest::updateByInstruction);
        CHECK.sentence("the latches of its drivers become the bits", TermsTest::updateDriversAlone);
        CHECK.sentence("UPDATE-I: what is in its shift register", TermsTest::updateInstruction);
        CHECK.sentence("the answer: before anything goes down", TermsTest::answerBeforeGoingDown);
        CHECK.sentence("the answer: 0 in all other states", TermsTest::zeroInOtherStates);
        CHECK.sentence("what stood in all registers before it", TermsTest::oneBitAClock);
    }

    private static void board() {
        CHECK.sentence("nets 0, 1, .., at most 8", TermsTest::eightNets);
        CHECK.sentence("each from a driver to a receiver", TermsTest::driverToReceiver);
        CHECK.sentence("none of them on two nets", TermsTest::noneOnTwoNets);
        CHECK.sentence("its latch when its device has EXTEST", TermsTest::outputIsLatch);
        CHECK.sentence("otherwise its core bit", TermsTest::outputIsCore);
        CHECK.sentence("its core bit, 0 at first", TermsTest::coreAtFirst);
        CHECK.sentence("a net's value is the output of its driver", TermsTest::valueOfOutput);
        CHECK.sentence("stuck at 0 (kind 0)", () -> dueValues(0, "0022"));
        CHECK.sentence("stuck at 1 (kind 1)", () -> dueValues(1, "1133"));
        CHECK.sentence("a short: the AND (kind 2)", () -> dueValues(2, "0003"));
        CHECK.sentence("a short: the OR (kind 3)", () -> dueValues(3, "0333"));
        CHECK.sentence("of the outputs of the two drivers", TermsTest::shortOfOutputs);
        CHECK.sentence("a net has at most one fault", TermsTest::oneFaultAtMost);
        CHECK.sentence("a short is that of both nets", TermsTest::shortOfBoth);
        CHECK.sentence("the signal of a receiver is the value of its net", TermsTest::signalOfReceiver);
        CHECK.sentence("0 without one", TermsTest::signalWithoutNet);
        CHECK.sentence("that of a driver its output", TermsTest::signalOfDriver);
    }

    private static void lastOf512Calls() {
        ChainBench x = new ChainBench();
        x.device(4, 5, 6, 0b000111);
        x.net(0, 0, 0, 3);
        for (int call = 3; call <= 509; call++) {
            x.find();
        }
        CHECK.due("test(), call 510", x.test(), 0);
        CHECK.due("clocks(), call 511", x.clocks(), 507 * 171 + 6 + 10 + 2 * 2 * 11);
        CHECK.due("saw(0), call 512", x.saw(0), 1);
    }

    private static void fourDevices() {
        ChainBench x = new ChainBench();
        for (int d = 0; d < 4; d++) {
            CHECK.due("device", x.device(2, 2 * d + 1, 1, 1), d);
        }
        CHECK.dueThrow("a fifth", Checks.STATE, () -> x.device(2, 9, 1, 1));
        CHECK.due("find", x.find(), 4);
        for (int d = 0; d < 4; d++) {
            CHECK.due("found " + d, x.found(d), 2 * d + 1);
        }
    }

    private static ChainBench chain(int devices) {
        ChainBench x = new ChainBench();
        for (int d = 0; d < devices; d++) {
            x.device(2 + d % 3, 5, 1, 1);
        }
        return x;
    }

    private static int highest(int device) {
        return 1 << 1 + device % 3;
    }

    private static void tdiGoesIntoTheFirst() {
        for (int devices = 1; devices <= 4; devices++) {
            ChainBench x = chain(devices);
            Hand.go(x, "01100");
            x.clock(false, true);
            CHECK.due("first of " + devices + " with TDI 1", x.look(0, 1), highest(0));
            x.clock(false, false);
            CHECK.due("first of " + devices + " with TDI 0", x.look(0, 1), highest(0) >> 1);
        }
    }

    private static void eachGoesIntoTheNext() {
        ChainBench x = chain(4);
        Hand.go(x, "01100");
        x.clock(false, false);
        CHECK.due("device 0", x.look(0, 1), 0);
        for (int d = 1; d < 4; d++) {
            CHECK.due("device " + d + " got the 1 of the one before", x.look(d, 1), highest(d));
        }
        x.clock(false, true);
        for (int d = 1; d < 4; d++) {
            CHECK.due("device " + d + " got the 0 of the one before", x.look(d, 1), highest(d) >> 1);
        }
    }

    private static void lastOneIsTdo() {
        String[] due = {"10", "10010", "100010010", "10100010010"};
        for (int devices = 1; devices <= 4; devices++) {
            ChainBench x = chain(devices);
            Hand.go(x, "01100");
            String want = due[devices - 1] + "1101";
            String in = "1101" + "0".repeat(due[devices - 1].length());
            CHECK.dueText("TDO of " + devices, Hand.shift(x, in), want);
        }
    }

    private static void instructionRegisterLengths() {
        for (int bits = 2; bits <= 4; bits++) {
            ChainBench x = new ChainBench();
            x.device(bits, 5, 1, 1);
            Hand.go(x, "01100");
            String out = Hand.shift(x, "1".repeat(2 * bits));
            CHECK.dueText("out of " + bits + " bits", out, "1" + "0".repeat(bits - 1) + "1".repeat(bits));
            CHECK.due("all ones in " + bits + " bits", x.look(0, 1), (1 << bits) - 1);
        }
    }

    private static void identityOf32Bits() {
        int[] identities = {1, 3, Integer.MAX_VALUE, Integer.MIN_VALUE + 1, -3, 0xAAAA_AAAB, 0x5555_5555};
        for (int identity : identities) {
            ChainBench x = new ChainBench();
            x.device(2, identity, 1, 1);
            Hand.go(x, "0");
            String out = Hand.scanD(x, "0110" + "0".repeat(32));
            CHECK.dueText("bits of " + identity, out, Hand.bits(identity, 32) + "0110");
        }
        CHECK.dueThrow("lowest bit 0", Checks.ARGUMENT, () -> new ChainBench().device(2, 6, 1, 1));
    }

    private static void cellCounts() {
        for (int cells = 1; cells <= 6; cells++) {
            ChainBench x = Benches.instructed(2, 0, 5, cells, -1);
            String zeros = "0".repeat(cells);
            CHECK.dueText("length of " + cells, Hand.scanD(x, "1" + zeros), zeros + "1");
            Hand.scanD(x, "1".repeat(cells));
            CHECK.due("latches of " + cells, x.look(0, 2), (1 << cells) - 1);
            CHECK.due("signals of " + cells, x.look(0, 3), (1 << cells) - 1);
        }
    }

    private static void eachCellDrivesOrSees() {
        for (int drivers = 0; drivers < 64; drivers++) {
            ChainBench x = new ChainBench();
            x.device(2, 5, 6, drivers);
            x.device(2, 5, 6, ~drivers);
            for (int c = 0; c < 6; c++) {
                int cell = c;
                boolean drives = (drivers >> c & 1) == 1;
                int from = drives ? 0 : 1;
                CHECK.dueThrow("against it", Checks.ARGUMENT, () -> x.net(1 - from, cell, from, cell));
                CHECK.due("along it", x.net(from, cell, 1 - from, cell), c);
            }
        }
    }

    private static void everyStep(int tms) {
        for (int s = 0; s < 16; s++) {
            for (int tdi = 0; tdi < 2; tdi++) {
                ChainBench x = chain(2);
                Hand.go(x, Hand.WAYS[s]);
                CHECK.due("the way to " + s, x.state(), s);
                x.clock(tms == 1, tdi == 1);
                CHECK.due("from " + s + " by TMS " + tms, x.state(), NEXT[s][tms]);
            }
        }
    }

    private static void statesThatStay() {
        String[] staying = {"0 1", "1 0", "4 0", "6 0", "11 0", "13 0"};
        for (String each : staying) {
            int s = Integer.parseInt(each.split(" ")[0]);
            ChainBench x = chain(1);
            Hand.go(x, Hand.WAYS[s]);
            Hand.go(x, each.split(" ")[1].repeat(100));
            CHECK.due("after 100 clocks in " + s, x.state(), s);
        }
        for (int s = 0; s < 16; s++) {
            ChainBench x = chain(1);
            Hand.go(x, Hand.WAYS[s] + "11111");
            CHECK.due("five clocks with TMS 1 from " + s, x.state(), 0);
        }
    }

    /** What 8 bits come out when ones go in: three cells hold 0 1 0 in their latches, 0 0 1 in their cores. */
    private static String out(int bits, int instruction) {
        ChainBench x = Benches.instructed(bits, 0, 0x55, 3, 0b111);
        x.core(0, 2, true);
        Hand.scanD(x, "010");
        Hand.scanI(x, Hand.bits(instruction, bits));
        return Hand.scanD(x, "11111111");
    }

    private static void instruction0() {
        for (int bits = 2; bits <= 4; bits++) {
            CHECK.dueText("0 in " + bits + " bits", out(bits, 0), "01011111");
        }
    }

    private static void instruction1() {
        for (int bits = 2; bits <= 4; bits++) {
            CHECK.dueText("1 in " + bits + " bits", out(bits, 1), Hand.bits(0x55, 8));
        }
    }

    private static void instruction2() {
        for (int bits = 2; bits <= 4; bits++) {
            CHECK.dueText("2 in " + bits + " bits", out(bits, 2), "00111111");
        }
    }

    private static void allOthersBypass() {
        for (int bits = 2; bits <= 4; bits++) {
            for (int instruction = 3; instruction < 1 << bits; instruction++) {
                CHECK.dueText(instruction + " in " + bits + " bits", out(bits, instruction), "01111111");
            }
        }
    }

    private static void boundaryLength() {
        for (int instruction = 0; instruction <= 2; instruction += 2) {
            for (int cells = 1; cells <= 6; cells++) {
                for (int c = 0; c < cells; c++) {
                    ChainBench x = Benches.instructed(3, instruction, 5, cells, -1);
                    String in = Hand.bits(1 << c, cells);
                    CHECK.dueText("length", Hand.scanD(x, "1" + "0".repeat(cells)), "0".repeat(cells) + "1");
                    Hand.scanD(x, in);
                    CHECK.due("bit " + c + " of " + cells + " cells", x.look(0, 2), 1 << c);
                }
            }
        }
    }

    private static void identityLength() {
        ChainBench x = Benches.instructed(3, 1, 0x8000_0001, 6, -1);
        String zeros = "0".repeat(30);
        CHECK.dueText("length", Hand.scanD(x, "10" + "0".repeat(32)), "1" + zeros + "1" + "10");
    }

    private static void bypassLength() {
        ChainBench x = Benches.instructed(3, 7, 5, 6, -1);
        CHECK.dueText("length", Hand.scanD(x, "101100"), "010110");
    }

    private static void oneState() {
        ChainBench x = chain(4);
        Hand.go(x, "0110");
        Hand.go(x, "0");
        for (int d = 0; d < 4; d++) {
            CHECK.due("device " + d + " captured", x.look(d, 1), 1);
        }
        Hand.shift(x, "0".repeat(11));
        Hand.go(x, "10");
        for (int d = 0; d < 4; d++) {
            CHECK.due("device " + d + " updated", x.look(d, 0), 0);
        }
        Hand.scanD(x, "1111");
        for (int d = 0; d < 4; d++) {
            CHECK.due("device " + d + " latched", x.look(d, 2), 1);
        }
        Hand.go(x, "111");
        for (int d = 0; d < 4; d++) {
            CHECK.due("device " + d + " reset", x.look(d, 0), 1);
        }
    }

    private static void resetGivesIdentity() {
        for (int instruction = 0; instruction < 16; instruction++) {
            ChainBench x = Benches.instructed(4, instruction, 5, 2, 0b11);
            Hand.go(x, "111");
            CHECK.due("instruction " + instruction + " after RESET", x.look(0, 0), 1);
            Hand.go(x, "11");
            CHECK.due("instruction " + instruction + " in RESET", x.look(0, 0), 1);
            CHECK.due("the shift register stays", x.look(0, 1), instruction);
            Hand.go(x, "0");
            CHECK.dueText("data after RESET", Hand.scanD(x, "0".repeat(32)), Hand.bits(5, 32));
        }
    }

    private static void resetAtOnce() {
        ChainBench x = Benches.instructed(3, 0, 5, 2, 0b11);
        x.core(0, 1, true);
        Hand.scanD(x, "10");
        Hand.go(x, "11");
        CHECK.due("the state before RESET", x.state(), 9);
        CHECK.due("the instruction before RESET", x.look(0, 0), 0);
        CHECK.due("the outputs before RESET", x.look(0, 3), 0b01);
        Hand.go(x, "1");
        CHECK.due("the state", x.state(), 0);
        CHECK.due("the instruction at once", x.look(0, 0), 1);
        CHECK.due("the outputs at once", x.look(0, 3), 0b10);
        CHECK.due("the latches stay", x.look(0, 2), 0b01);
    }

    private static void stateActsWhenLeft() {
        ChainBench x = Benches.instructed(2, 2, 5, 2, 0b11);
        Hand.go(x, "10");
        x.core(0, 0, true);
        Hand.go(x, "0");
        x.core(0, 1, true);
        CHECK.dueText("captured by the clock in CAPTURE-D", Hand.shift(x, "11"), "10");
        Hand.go(x, "1");
        CHECK.due("UPDATE-D is come to", x.look(0, 2), 0);
        Hand.go(x, "0");
        CHECK.due("UPDATE-D is left", x.look(0, 2), 0b11);
        Hand.go(x, "110");
        CHECK.due("CAPTURE-I is come to", x.look(0, 1), 2);
        Hand.go(x, "0");
        CHECK.due("CAPTURE-I is left", x.look(0, 1), 1);
        Hand.go(x, "11");
        CHECK.due("UPDATE-I is come to", x.look(0, 0), 2);
        Hand.go(x, "1");
        CHECK.due("UPDATE-I is left by TMS 1 too", x.look(0, 0), 0);
    }

    private static void captureBoundary() {
        for (int instruction = 0; instruction <= 2; instruction += 2) {
            ChainBench x = new ChainBench();
            x.device(2, 5, 6, 0b000111);
            x.net(0, 0, 0, 3);
            x.net(0, 1, 0, 5);
            x.fault(1, 1, 0);
            x.core(0, 0, true);
            Hand.go(x, "0");
            Hand.scanI(x, Hand.bits(0, 2));
            Hand.scanD(x, "001000");
            Hand.scanI(x, Hand.bits(instruction, 2));
            String want = instruction == 0 ? "001001" : "100101";
            CHECK.dueText("captured by instruction " + instruction, Hand.scanD(x, "000000"), want);
        }
    }

    private static void captureIdentity() {
        ChainBench x = Benches.instructed(2, 1, 0xC000_0007, 2, 0b11);
        for (int i = 0; i < 2; i++) {
            CHECK.dueText("captured anew", Hand.scanD(x, "0".repeat(32)), Hand.bits(0xC000_0007, 32));
        }
    }

    private static void captureBypass() {
        ChainBench x = Benches.instructed(2, 3, 5, 2, 0b11);
        for (int i = 0; i < 2; i++) {
            CHECK.dueText("captured anew", Hand.scanD(x, "111"), "011");
        }
    }

    private static void captureInstruction() {
        for (int bits = 2; bits <= 4; bits++) {
            ChainBench x = Benches.instructed(bits, (1 << bits) - 1, 5, 1, 1);
            Hand.go(x, "110");
            CHECK.due("before", x.look(0, 1), (1 << bits) - 1);
            x.clock(false, true);
            CHECK.due("after", x.look(0, 1), 1);
        }
    }

    private static void registerGoesDown() {
        ChainBench x = new ChainBench();
        x.device(4, 5, 1, 1);
        Hand.go(x, "01100");
        int[] due = {0b1000, 0b0100, 0b1010, 0b1101, 0b0110, 0b0011, 0b0001, 0b0000};
        boolean[] in = {true, false, true, true, false, false, false, false};
        for (int i = 0; i < due.length; i++) {
            x.clock(false, in[i]);
            CHECK.due("after shift " + (i + 1), x.look(0, 1), due[i]);
        }
    }

    private static void lastShift() {
        ChainBench x = new ChainBench();
        x.device(3, 5, 2, 0b11);
        Hand.go(x, "01100");
        CHECK.due("what comes out of SHIFT-I by TMS 1", x.clock(true, true), true);
        CHECK.due("the register", x.look(0, 1), 0b100);
        Hand.go(x, "10");
        CHECK.due("the instruction", x.look(0, 0), 4);
        Hand.scanI(x, "000");
        Hand.go(x, "100");
        x.clock(true, true);
        Hand.go(x, "10");
        CHECK.due("the latches by one shift with TMS 1", x.look(0, 2), 0b10);
    }

    private static void pauseKeeps() {
        ChainBench x = new ChainBench();
        x.device(4, 5, 4, 0b1111);
        Hand.go(x, "01100");
        Hand.shift(x, "01");
        x.clock(false, true);
        x.clock(false, true);
        x.clock(true, true);
        CHECK.due("kept to EXIT2-I", x.look(0, 1), 0b1000);
        x.clock(false, true);
        CHECK.due("back in SHIFT-I", x.state(), SHIFT_I);
        CHECK.due("kept to SHIFT-I", x.look(0, 1), 0b1000);
        Hand.shift(x, "000");
        x.clock(true, true);
        x.clock(false, true);
        CHECK.due("the instruction", x.look(0, 0), 1);
        Hand.scanI(x, "0000");
        Hand.go(x, "100");
        Hand.shift(x, "11");
        x.clock(false, true);
        x.clock(false, false);
        x.clock(true, true);
        x.clock(false, true);
        CHECK.due("back in SHIFT-D", x.state(), SHIFT_D);
        Hand.shift(x, "0");
        Hand.go(x, "10");
        CHECK.due("the latches", x.look(0, 2), 0b0110);
    }

    private static void updateByInstruction() {
        for (int instruction = 0; instruction < 16; instruction++) {
            ChainBench x = Benches.instructed(4, 0, 7, 2, 0b11);
            Hand.scanD(x, "01");
            Hand.scanI(x, Hand.bits(instruction, 4));
            Hand.scanD(x, "10");
            boolean updates = instruction == 0 || instruction == 2;
            CHECK.due("latches by instruction " + instruction, x.look(0, 2), updates ? 0b01 : 0b10);
        }
    }

    private static void updateDriversAlone() {
        for (int instruction = 0; instruction <= 2; instruction += 2) {
            for (int drivers = 0; drivers < 64; drivers++) {
                ChainBench x = Benches.instructed(2, instruction, 5, 6, drivers);
                Hand.scanD(x, "111111");
                CHECK.due("ones into drivers " + drivers, x.look(0, 2), drivers);
                Hand.scanD(x, "010101");
                CHECK.due("bits into drivers " + drivers, x.look(0, 2), drivers & 0b101010);
            }
        }
    }

    private static void updateInstruction() {
        for (int bits = 2; bits <= 4; bits++) {
            for (int instruction = 0; instruction < 1 << bits; instruction++) {
                ChainBench x = Benches.instructed(bits, instruction, 5, 1, 1);
                CHECK.due("instruction in " + bits + " bits", x.look(0, 0), instruction);
                CHECK.due("its shift register stays", x.look(0, 1), instruction);
            }
        }
        ChainBench x = Benches.instructed(4, 9, 5, 1, 1);
        Hand.go(x, "110110");
        CHECK.due("CAPTURE-I, then UPDATE-I at once", x.look(0, 0), 1);
    }

    private static void answerBeforeGoingDown() {
        ChainBench x = new ChainBench();
        x.device(2, 5, 1, 1);
        Hand.go(x, "01100");
        CHECK.due("the lowest bit of 01", x.clock(false, false), true);
        CHECK.due("the lowest bit of 00", x.clock(false, true), false);
        CHECK.due("the lowest bit of 10", x.clock(false, true), false);
        CHECK.due("the lowest bit of 11", x.clock(false, false), true);
        CHECK.due("the lowest bit of 01 again", x.clock(true, false), true);
    }

    /** The registers hold their captured 1 there, and TDI is 1: neither may come out. */
    private static void zeroInOtherStates() {
        for (int s = 0; s < 16; s++) {
            for (int tms = 0; tms < 2; tms++) {
                ChainBench x = chain(1);
                Hand.go(x, Hand.WAYS[s]);
                CHECK.due("out of state " + s, x.clock(tms == 1, true), s == SHIFT_D || s == SHIFT_I);
            }
        }
    }

    private static void oneBitAClock() {
        ChainBench x = chain(4);
        Hand.go(x, "0");
        Hand.scanI(x, "1".repeat(11));
        CHECK.dueText("through four bits", Hand.scanD(x, "10110000"), "00001011");
    }

    private static ChainBench crossed(int nets) {
        ChainBench x = new ChainBench();
        x.device(2, 5, 6, 0b111111);
        x.device(2, 7, 6, 0b000111);
        x.device(2, 9, 6, 0);
        for (int n = 0; n < nets; n++) {
            addCrossed(x, n);
        }
        return x;
    }

    private static int addCrossed(ChainBench x, int n) {
        return x.net(n / 6, n % 6, n < 6 ? 2 : 1, n < 6 ? 5 - n : n - 3);
    }

    private static void eightNets() {
        ChainBench x = crossed(0);
        for (int n = 0; n < 8; n++) {
            CHECK.due("net", addCrossed(x, n), n);
        }
        CHECK.dueThrow("a ninth", Checks.STATE, () -> addCrossed(x, 8));
        CHECK.due("all eight work", x.test(), 0);
        CHECK.due("the last one", x.saw(7), 8);
    }

    private static void driverToReceiver() {
        ChainBench x = crossed(0);
        CHECK.dueThrow("driver to driver", Checks.ARGUMENT, () -> x.net(0, 0, 1, 0));
        CHECK.dueThrow("receiver to receiver", Checks.ARGUMENT, () -> x.net(1, 3, 2, 0));
        CHECK.dueThrow("receiver to driver", Checks.ARGUMENT, () -> x.net(2, 0, 0, 0));
        CHECK.due("driver to receiver", x.net(0, 0, 2, 0), 0);
    }

    private static void noneOnTwoNets() {
        ChainBench x = crossed(2);
        CHECK.dueThrow("the driver again", Checks.ARGUMENT, () -> x.net(0, 0, 2, 0));
        CHECK.dueThrow("the receiver again", Checks.ARGUMENT, () -> x.net(0, 2, 2, 5));
        CHECK.dueThrow("both again", Checks.ARGUMENT, () -> x.net(0, 0, 2, 5));
        CHECK.dueThrow("of two nets", Checks.ARGUMENT, () -> x.net(0, 1, 2, 5));
        CHECK.due("others", x.net(0, 2, 2, 0), 2);
    }

    private static void outputIsLatch() {
        for (int pattern = 0; pattern < 4; pattern++) {
            ChainBench x = Benches.instructed(2, 0, 5, 3, 0b011);
            x.net(0, 0, 0, 2);
            x.core(0, 0, (pattern & 1) == 0);
            x.core(0, 1, (pattern & 2) == 0);
            Hand.scanD(x, Hand.bits(pattern, 3));
            CHECK.due("latches " + pattern, x.look(0, 3), pattern | (pattern & 1) << 2);
            CHECK.due("value", x.value(0), (pattern & 1) == 1);
        }
    }

    private static void outputIsCore() {
        for (int instruction = 1; instruction < 16; instruction++) {
            ChainBench x = Benches.instructed(4, 0, 5, 3, 0b011);
            x.net(0, 0, 0, 2);
            Hand.scanD(x, "010");
            x.core(0, 0, true);
            Hand.scanI(x, Hand.bits(instruction, 4));
            CHECK.due("cores by instruction " + instruction, x.look(0, 3), 0b101);
            CHECK.due("value by instruction " + instruction, x.value(0), true);
            CHECK.due("latches by instruction " + instruction, x.look(0, 2), 0b010);
        }
    }

    private static void coreAtFirst() {
        ChainBench x = new ChainBench();
        for (int d = 0; d < 4; d++) {
            x.device(4, 5, 6, -1);
            CHECK.due("outputs of device " + d, x.look(d, 3), 0);
        }
    }

    private static void valueOfOutput() {
        ChainBench x = Benches.fourNets();
        for (int cores = 0; cores < 16; cores++) {
            Hand.setCores(x, cores);
            CHECK.due("values", Hand.values(x), cores);
        }
    }

    /** For outputs 0 to 3 of the drivers of nets 0 and 1: their values, with the fault on net 0. */
    private static void dueValues(int kind, String table) {
        ChainBench x = Benches.fourNets();
        x.fault(0, kind, 1);
        for (int cores = 0; cores < 4; cores++) {
            for (int others = 0; others < 4; others++) {
                Hand.setCores(x, cores | others << 2);
                CHECK.due("values with " + cores, Hand.values(x), table.charAt(cores) - '0' | others << 2);
            }
        }
    }

    private static void shortOfOutputs() {
        for (int kind = 2; kind <= 3; kind++) {
            ChainBench x = new ChainBench();
            x.device(2, 5, 2, 0b01);
            x.device(2, 7, 2, 0b01);
            x.net(0, 0, 1, 1);
            x.net(1, 0, 0, 1);
            x.fault(1, kind, 0);
            x.core(0, 0, true);
            x.core(1, 0, true);
            Hand.go(x, "0");
            Hand.scanI(x, "11" + "00");
            boolean either = kind == 3;
            CHECK.due("a latch of 0 and a core bit of 1, kind " + kind, x.value(0), either);
            CHECK.due("the other net", x.value(1), either);
            CHECK.due("seen by device 0", x.look(0, 3), either ? 0b10 : 0b00);
            CHECK.due("seen by device 1", x.look(1, 3), either ? 0b11 : 0b01);
        }
    }

    private static void oneFaultAtMost() {
        for (int first = 0; first <= 3; first++) {
            for (int second = 0; second <= 3; second++) {
                ChainBench x = Benches.fourNets();
                x.fault(0, first, 1);
                x.fault(0, second, 2);
                ChainBench twin = Benches.fourNets();
                twin.fault(0, second, 2);
                for (int cores = 0; cores < 16; cores++) {
                    Hand.setCores(x, cores);
                    Hand.setCores(twin, cores);
                    CHECK.due("kind " + second + " after " + first, Hand.values(x), Hand.values(twin));
                }
            }
        }
    }

    private static void shortOfBoth() {
        for (int kind = 2; kind <= 3; kind++) {
            for (int mended = 0; mended < 2; mended++) {
                ChainBench x = Benches.fourNets();
                x.fault(0, kind, 1);
                Hand.setCores(x, 0b0001);
                CHECK.due("both have it", Hand.values(x), kind == 2 ? 0b0000 : 0b0011);
                Hand.setCores(x, 0b0010);
                CHECK.due("both ways round", Hand.values(x), kind == 2 ? 0b0000 : 0b0011);
                x.fault(mended, -1, 0);
                CHECK.due("both lose it", Hand.values(x), 0b0010);
                Hand.setCores(x, 0b0001);
                CHECK.due("both ways round", Hand.values(x), 0b0001);
            }
        }
    }

    private static void signalOfReceiver() {
        ChainBench x = Benches.fourNets();
        x.fault(2, 1, 0);
        x.fault(3, 0, 0);
        for (int cores = 0; cores < 16; cores++) {
            Hand.setCores(x, cores);
            CHECK.due("signals", x.look(1, 3), cores & 0b0011 | 0b0100);
        }
    }

    private static void signalWithoutNet() {
        ChainBench x = new ChainBench();
        x.device(2, 5, 6, 0b000001);
        x.core(0, 0, true);
        CHECK.due("no net at all", x.look(0, 3), 1);
        x.net(0, 0, 0, 3);
        CHECK.due("one net", x.look(0, 3), 0b001001);
        Hand.go(x, "0");
        Hand.scanI(x, "00");
        CHECK.dueText("captured", Hand.scanD(x, "111111"), "000000");
        CHECK.dueText("captured again, no bit of the scan", Hand.scanD(x, "111111"), "100100");
    }

    private static void signalOfDriver() {
        for (int kind = 0; kind <= 3; kind++) {
            ChainBench x = Benches.fourNets();
            x.fault(0, kind, 1);
            for (int cores = 0; cores < 16; cores++) {
                Hand.setCores(x, cores);
                CHECK.due("with a fault of kind " + kind, x.look(0, 3), cores);
            }
        }
    }
}
