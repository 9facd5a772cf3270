import java.util.ArrayList;

/** A chain of devices with test ports on a board, and the host that finds the devices and tests the nets. */
public final class ChainBench {
    private static final int MOST_DEVICES = 4;
    private static final int MOST_NETS = 8;
    private static final int MOST_CELLS = 6;
    private static final int LEAST_BITS = 2;
    private static final int MOST_BITS = 4;

    private static final int RESET = 0;
    private static final int CAPTURE_D = 3;
    private static final int SHIFT_D = 4;
    private static final int UPDATE_D = 8;
    private static final int CAPTURE_I = 10;
    private static final int SHIFT_I = 11;
    private static final int UPDATE_I = 15;
    private static final int[] AFTER_TMS_0 = {1, 1, 3, 4, 4, 6, 6, 4, 1, 10, 11, 11, 13, 13, 11, 1};
    private static final int[] AFTER_TMS_1 = {0, 2, 9, 5, 5, 8, 7, 8, 2, 0, 12, 12, 15, 14, 15, 2};

    private static final int EXTEST = 0;
    private static final int IDENTITY = 1;
    private static final int SAMPLE = 2;

    private static final int NO_FAULT = -1;
    private static final int STUCK_AT_0 = 0;
    private static final int STUCK_AT_1 = 1;
    private static final int SHORT_AND = 2;
    private static final int SHORT_OR = 3;

    private static final int LOOK_INSTRUCTION = 0;
    private static final int LOOK_INSTRUCTION_SHIFT = 1;
    private static final int LOOK_LATCHES = 2;
    private static final int LOOK_SIGNALS = 3;

    private static final int WORD_BITS = 32;
    private static final int ALL_ONES = -1;
    /** One word more than there can be devices, so that the word of all ones always comes. */
    private static final int ROW_WORDS = MOST_DEVICES + 1;
    /** Enough for MOST_NETS: 2 to this power is above MOST_NETS + 1. */
    private static final int MOST_ROUNDS = 4;

    private final ArrayList<Device> devices;
    private final ArrayList<Net> nets;
    private int portState;
    private int clockCount;
    /** The bits of a scan, the first one lowest in word 0: those that go in, then those that came out. */
    private final int[] scanRow;
    private final int[] foundIdentities;
    private int foundCount;
    private boolean tested;

    public ChainBench() {
        devices = new ArrayList<>();
        nets = new ArrayList<>();
        portState = RESET;
        scanRow = new int[ROW_WORDS];
        foundIdentities = new int[MOST_DEVICES];
    }

    public int device(int bits, int identity, int cells, int drivers)
            throws IllegalArgumentException, IllegalStateException {
        if (bits < LEAST_BITS || bits > MOST_BITS || cells < 1 || cells > MOST_CELLS) {
            throw new IllegalArgumentException();
        }
        if ((identity & 1) == 0 || identity == ALL_ONES) {
            throw new IllegalArgumentException();
        }
        if (devices.size() >= MOST_DEVICES) {
            throw new IllegalStateException();
        }
        devices.add(new Device(bits, identity, cells, drivers));
        restartDevices();
        return devices.size() - 1;
    }

    public int net(int device, int cell, int toDevice, int toCell)
            throws IllegalArgumentException, IllegalStateException {
        if (!isCell(device, cell) || !isCell(toDevice, toCell)) {
            throw new IllegalArgumentException();
        }
        Device from = devices.get(device);
        Device to = devices.get(toDevice);
        if (!from.drives(cell) || to.drives(toCell) || from.isWired(cell) || to.isWired(toCell)) {
            throw new IllegalArgumentException();
        }
        if (nets.size() >= MOST_NETS) {
            throw new IllegalStateException();
        }
        from.wire(cell);
        to.wire(toCell);
        nets.add(new Net(from, cell, to, toCell));
        tested = false;
        return nets.size() - 1;
    }

    public void fault(int net, int kind, int other) throws IllegalArgumentException {
        if (!isNet(net) || kind < NO_FAULT || kind > SHORT_OR) {
            throw new IllegalArgumentException();
        }
        if (kind != SHORT_AND && kind != SHORT_OR) {
            nets.get(net).breakAlone(kind);
            return;
        }
        if (!isNet(other) || other == net) {
            throw new IllegalArgumentException();
        }
        nets.get(net).breakWith(nets.get(other), kind);
    }

    public void core(int device, int cell, boolean one) throws IllegalArgumentException {
        if (!isCell(device, cell) || !devices.get(device).drives(cell)) {
            throw new IllegalArgumentException();
        }
        devices.get(device).setCore(cell, one);
    }

    public boolean clock(boolean tms, boolean tdi) throws IllegalStateException {
        if (devices.isEmpty()) {
            throw new IllegalStateException();
        }
        return step(tms, tdi);
    }

    public int state() {
        return portState;
    }

    public int look(int device, int what) throws IllegalArgumentException {
        if (!isDevice(device)) {
            throw new IllegalArgumentException();
        }
        Device looked = devices.get(device);
        switch (what) {
            case LOOK_INSTRUCTION:
                return looked.instruction;
            case LOOK_INSTRUCTION_SHIFT:
                return looked.instructionShift;
            case LOOK_LATCHES:
                return looked.latches;
            case LOOK_SIGNALS:
                return signalsOf(looked);
            default:
                throw new IllegalArgumentException();
        }
    }

    public boolean value(int net) throws IllegalArgumentException {
        if (!isNet(net)) {
            throw new IllegalArgumentException();
        }
        return nets.get(net).carries();
    }

    public int find() throws IllegalStateException {
        if (devices.isEmpty()) {
            throw new IllegalStateException();
        }
        goToIdle();
        for (int w = 0; w < ROW_WORDS; w++) {
            scanRow[w] = ALL_ONES;
        }
        scan(false, WORD_BITS * ROW_WORDS);
        foundCount = wordsBeforeAllOnes();
        for (int k = 0; k < foundCount; k++) {
            foundIdentities[k] = scanRow[foundCount - 1 - k];
        }
        return foundCount;
    }

    public int found(int k) throws IndexOutOfBoundsException {
        if (k < 0 || k >= foundCount) {
            throw new IndexOutOfBoundsException();
        }
        return foundIdentities[k];
    }

    public int test() throws IllegalStateException {
        if (devices.isEmpty() || nets.isEmpty()) {
            throw new IllegalStateException();
        }
        goToIdle();
        giveAllExtest();
        forgetSeen();
        for (int r = 0; r < MOST_ROUNDS && 1 << r <= nets.size() + 1; r++) {
            int pattern = patternOfRound(r);
            scanRow[0] = pattern;
            scan(false, allCells());
            scanRow[0] = pattern;
            scan(false, allCells());
            noteSeen(r, scanRow[0]);
        }
        tested = true;
        return countFaulty();
    }

    public int saw(int net) throws IndexOutOfBoundsException {
        if (!tested || !isNet(net)) {
            throw new IndexOutOfBoundsException();
        }
        return nets.get(net).seen;
    }

    public int clocks() {
        return clockCount;
    }

    private boolean isDevice(int device) {
        return device >= 0 && device < devices.size();
    }

    private boolean isCell(int device, int cell) {
        return isDevice(device) && cell >= 0 && cell < devices.get(device).cells;
    }

    private boolean isNet(int net) {
        return net >= 0 && net < nets.size();
    }

    private void restartDevices() {
        enterState(RESET);
        for (int d = 0; d < devices.size(); d++) {
            devices.get(d).clearOutputs();
        }
        clockCount = 0;
        foundCount = 0;
        tested = false;
    }

    private boolean step(boolean tms, boolean tdi) {
        boolean out = doState(tdi);
        enterState(tms ? AFTER_TMS_1[portState] : AFTER_TMS_0[portState]);
        clockCount++;
        return out;
    }

    /** RESET is done here alone: nothing can change an instruction while the ports stay in it. */
    private void enterState(int next) {
        portState = next;
        if (next == RESET) {
            for (int d = 0; d < devices.size(); d++) {
                devices.get(d).instruction = IDENTITY;
            }
        }
    }

    /** Each device is handed what the one before it gave out, so one pass shifts what stood in all before. */
    private boolean doState(boolean tdi) {
        boolean passed = tdi;
        for (int d = 0; d < devices.size(); d++) {
            Device device = devices.get(d);
            switch (portState) {
                case CAPTURE_D:
                    device.captureData(signalsOf(device));
                    break;
                case SHIFT_D:
                    passed = device.shiftData(passed);
                    break;
                case UPDATE_D:
                    device.updateData();
                    break;
                case CAPTURE_I:
                    device.instructionShift = 1;
                    break;
                case SHIFT_I:
                    passed = device.shiftInstruction(passed);
                    break;
                case UPDATE_I:
                    device.instruction = device.instructionShift;
                    break;
                default:
                    break;
            }
        }
        return passed && (portState == SHIFT_D || portState == SHIFT_I);
    }

    private int signalsOf(Device seeing) {
        int signals = seeing.outputs();
        for (int n = 0; n < nets.size(); n++) {
            Net net = nets.get(n);
            if (net.to == seeing && net.carries()) {
                signals |= 1 << net.toCell;
            }
        }
        return signals;
    }

    private void goToIdle() {
        for (int i = 0; i < 5; i++) {
            step(true, false);
        }
        step(false, false);
    }

    /** Changes each bit of the row, as it goes in, for the one that comes out in the same clock. */
    private void scan(boolean instructions, int count) {
        if (instructions) {
            step(true, false);
        }
        step(true, false);
        step(false, false);
        step(false, false);
        for (int i = 0; i < count; i++) {
            int word = i / WORD_BITS;
            int bit = 1 << i % WORD_BITS;
            boolean came = step(i == count - 1, (scanRow[word] & bit) != 0);
            scanRow[word] = came ? scanRow[word] | bit : scanRow[word] & ~bit;
        }
        step(true, false);
        step(false, false);
    }

    private int wordsBeforeAllOnes() {
        int words = 0;
        while (words < MOST_DEVICES && scanRow[words] != ALL_ONES) {
            words++;
        }
        return words;
    }

    /** EXTEST is 0 in every bit, so one row of zeros serves registers of any lengths. */
    private void giveAllExtest() {
        int bits = 0;
        for (int d = 0; d < devices.size(); d++) {
            bits += devices.get(d).bits;
        }
        scanRow[0] = EXTEST;
        scan(true, bits);
    }

    private int allCells() {
        int cells = 0;
        for (int d = 0; d < devices.size(); d++) {
            cells += devices.get(d).cells;
        }
        return cells;
    }

    private void forgetSeen() {
        for (int n = 0; n < nets.size(); n++) {
            nets.get(n).seen = 0;
        }
    }

    private int patternOfRound(int round) {
        int pattern = 0;
        for (int n = 0; n < nets.size(); n++) {
            Net net = nets.get(n);
            pattern |= (n + 1 >>> round & 1) << placeInScan(net.from, net.fromCell);
        }
        return pattern;
    }

    private void noteSeen(int round, int came) {
        for (int n = 0; n < nets.size(); n++) {
            Net net = nets.get(n);
            net.seen |= (came >>> placeInScan(net.to, net.toCell) & 1) << round;
        }
    }

    /** A scan fills and empties the chain from its end, so the cells of all later devices come before. */
    private int placeInScan(Device owner, int cell) {
        int place = cell;
        for (int d = devices.size() - 1; d >= 0 && devices.get(d) != owner; d--) {
            place += devices.get(d).cells;
        }
        return place;
    }

    private int countFaulty() {
        int faulty = 0;
        for (int n = 0; n < nets.size(); n++) {
            if (nets.get(n).seen != n + 1) {
                faulty++;
            }
        }
        return faulty;
    }

    private static final class Device {
        final int bits;
        final int identity;
        final int cells;
        final int drivers;
        int wired;
        int latches;
        int cores;
        int instruction;
        int instructionShift;
        /** One field serves all instructions: every way into SHIFT-D and UPDATE-D captures it first. */
        int data;

        Device(int bits, int identity, int cells, int drivers) {
            this.bits = bits;
            this.identity = identity;
            this.cells = cells;
            this.drivers = drivers & (1 << cells) - 1;
            this.instruction = IDENTITY;
        }

        boolean drives(int cell) {
            return (drivers >>> cell & 1) == 1;
        }

        boolean isWired(int cell) {
            return (wired >>> cell & 1) == 1;
        }

        void wire(int cell) {
            wired |= 1 << cell;
        }

        void setCore(int cell, boolean one) {
            if (one) {
                cores |= 1 << cell;
            } else {
                cores &= ~(1 << cell);
            }
        }

        void clearOutputs() {
            latches = 0;
            cores = 0;
        }

        int outputs() {
            return instruction == EXTEST ? latches : cores;
        }

        boolean hasBoundary() {
            return instruction == EXTEST || instruction == SAMPLE;
        }

        int dataLength() {
            if (hasBoundary()) {
                return cells;
            }
            return instruction == IDENTITY ? WORD_BITS : 1;
        }

        void captureData(int signals) {
            if (hasBoundary()) {
                data = signals;
            } else {
                data = instruction == IDENTITY ? identity : 0;
            }
        }

        boolean shiftData(boolean in) {
            boolean out = (data & 1) == 1;
            data = shiftedDown(data, dataLength(), in);
            return out;
        }

        boolean shiftInstruction(boolean in) {
            boolean out = (instructionShift & 1) == 1;
            instructionShift = shiftedDown(instructionShift, bits, in);
            return out;
        }

        void updateData() {
            if (hasBoundary()) {
                latches = data & drivers;
            }
        }

        private static int shiftedDown(int register, int length, boolean in) {
            int down = register >>> 1;
            return in ? down | 1 << length - 1 : down;
        }
    }

    private static final class Net {
        final Device from;
        final int fromCell;
        final Device to;
        final int toCell;
        int faultKind;
        /** The other net of a short; null without one. */
        Net shortedWith;
        /** What its receiver saw in the latest test. */
        int seen;

        Net(Device from, int fromCell, Device to, int toCell) {
            this.from = from;
            this.fromCell = fromCell;
            this.to = to;
            this.toCell = toCell;
            this.faultKind = NO_FAULT;
        }

        boolean carries() {
            if (faultKind == STUCK_AT_0) {
                return false;
            }
            if (faultKind == STUCK_AT_1) {
                return true;
            }
            int own = from.outputs() >>> fromCell & 1;
            if (shortedWith == null) {
                return own == 1;
            }
            int others = shortedWith.from.outputs() >>> shortedWith.fromCell & 1;
            return (faultKind == SHORT_AND ? own & others : own | others) == 1;
        }

        void breakAlone(int kind) {
            mend();
            faultKind = kind;
        }

        void breakWith(Net other, int kind) {
            mend();
            other.mend();
            faultKind = kind;
            shortedWith = other;
            other.faultKind = kind;
            other.shortedWith = this;
        }

        /** A short is a fault of both nets, so the other one loses it too. */
        private void mend() {
            if (shortedWith != null) {
                shortedWith.faultKind = NO_FAULT;
                shortedWith.shortedWith = null;
            }
            faultKind = NO_FAULT;
            shortedWith = null;
        }
    }
}
