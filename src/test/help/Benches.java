/** Benches that tests begin with. */
final class Benches {
    private Benches() {
    }

    /** One device in IDLE with this instruction. */
    static ChainBench instructed(int bits, int instruction, int identity, int cells, int drivers) {
        ChainBench x = new ChainBench();
        x.device(bits, identity, cells, drivers);
        Hand.go(x, "0");
        Hand.scanI(x, Hand.bits(instruction, bits));
        return x;
    }

    /** Nets 0 to 3 from device 0 (2 bits) to device 1 (3 bits), cell to cell; in RESET. */
    static ChainBench fourNets() {
        ChainBench x = new ChainBench();
        x.device(2, 1, 4, 0b1111);
        x.device(3, 3, 4, 0);
        for (int n = 0; n < 4; n++) {
            x.net(0, n, 1, n);
        }
        return x;
    }

    /** One device without a net, half through a scan of instructions. */
    static ChainBench single() {
        ChainBench x = new ChainBench();
        x.device(4, 0x1234_5679, 3, 0b101);
        x.core(0, 2, true);
        Hand.go(x, "01100");
        Hand.shift(x, "110");
        return x;
    }

    /** Two devices whose nets 0 and 1 are shorted, found and tested, in EXTEST, half through a scan of data. */
    static ChainBench busy() {
        ChainBench x = new ChainBench();
        x.device(3, 5, 4, 0b0011);
        x.device(2, -3, 5, 0b10001);
        x.net(0, 0, 1, 1);
        x.net(1, 4, 0, 2);
        x.core(0, 1, true);
        x.find();
        x.test();
        x.fault(0, 3, 1);
        Hand.scanD(x, "100000001");
        Hand.go(x, "100");
        x.clock(false, true);
        return x;
    }

    /** All four devices and eight nets, found and tested; each of them has a driver and a receiver free. */
    static ChainBench full() {
        ChainBench x = new ChainBench();
        for (int d = 0; d < 4; d++) {
            x.device(2 + d % 3, 2 * d + 1, 6, 0b010101);
        }
        for (int n = 0; n < 8; n++) {
            x.net(n % 4, n / 4 * 2, (n + 1) % 4, n / 4 * 2 + 1);
        }
        x.core(3, 4, true);
        x.fault(7, 2, 0);
        x.find();
        x.test();
        return x;
    }
}
