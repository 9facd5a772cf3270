import java.util.ArrayList;
import java.util.List;
import java.util.Random;

/**
 * Long runs of calls, each answer compared with that of a second, plainer model: its chain is one row of
 * bits, and what the host finds and sees is told from the devices and faults, not from clocks.
 */
public final class ModelTest {
    private static final int RUNS = 4000;
    /** Later calls of an object may answer anything. */
    private static final int CALLS = 512;
    private static final Checks CHECK = new Checks("ModelTest");

    public static void main(String[] args) {
        for (int run = 0; run < RUNS; run++) {
            new Run(run).play();
        }
        CHECK.end();
    }

    private static final class Port {
        int bits;
        int identity;
        boolean[] drives;
        boolean[] latch;
        boolean[] core;
        int instruction = 1;
        boolean[] instructionRow;
        boolean[] dataRow = {};
    }

    private static final class Wire {
        int from;
        int fromCell;
        int to;
        int toCell;
        String fault = "none";
        int other = -1;
    }

    private static final class Model {
        static final String[] NEXT = {
            "RESET IDLE RESET", "IDLE IDLE SELECT-D", "SELECT-D CAPTURE-D SELECT-I",
            "CAPTURE-D SHIFT-D EXIT1-D", "SHIFT-D SHIFT-D EXIT1-D", "EXIT1-D PAUSE-D UPDATE-D",
            "PAUSE-D PAUSE-D EXIT2-D", "EXIT2-D SHIFT-D UPDATE-D", "UPDATE-D IDLE SELECT-D",
            "SELECT-I CAPTURE-I RESET", "CAPTURE-I SHIFT-I EXIT1-I", "SHIFT-I SHIFT-I EXIT1-I",
            "EXIT1-I PAUSE-I UPDATE-I", "PAUSE-I PAUSE-I EXIT2-I", "EXIT2-I SHIFT-I UPDATE-I",
            "UPDATE-I IDLE SELECT-D"};

        final List<Port> ports = new ArrayList<>();
        final List<Wire> wires = new ArrayList<>();
        String state = "RESET";
        int clocks;
        boolean found;
        int[] saw;

        int stateNumber() {
            for (int s = 0; s < NEXT.length; s++) {
                if (NEXT[s].startsWith(state + " ")) {
                    return s;
                }
            }
            throw new AssertionError(state);
        }

        String device(int bits, int identity, int cells, int drivers) {
            boolean good = bits >= 2 && bits <= 4 && identity % 2 != 0 && identity != -1 && cells >= 1 && cells <= 6;
            if (!good) {
                return "IllegalArgumentException";
            }
            if (ports.size() == 4) {
                return "IllegalStateException";
            }
            Port port = new Port();
            port.bits = bits;
            port.identity = identity;
            port.drives = new boolean[cells];
            for (int c = 0; c < cells; c++) {
                port.drives[c] = (drivers & 1 << c) != 0;
            }
            port.instructionRow = new boolean[bits];
            ports.add(port);
            for (Port each : ports) {
                each.instruction = 1;
                each.latch = new boolean[each.drives.length];
                each.core = new boolean[each.drives.length];
            }
            state = "RESET";
            clocks = 0;
            found = false;
            saw = null;
            return String.valueOf(ports.size() - 1);
        }

        boolean hasCell(int device, int cell) {
            return device >= 0 && device < ports.size() && cell >= 0 && cell < ports.get(device).drives.length;
        }

        String net(int from, int fromCell, int to, int toCell) {
            if (!hasCell(from, fromCell) || !hasCell(to, toCell)) {
                return "IllegalArgumentException";
            }
            if (!ports.get(from).drives[fromCell] || ports.get(to).drives[toCell]) {
                return "IllegalArgumentException";
            }
            for (Wire wire : wires) {
                if (wire.from == from && wire.fromCell == fromCell || wire.to == to && wire.toCell == toCell) {
                    return "IllegalArgumentException";
                }
            }
            if (wires.size() == 8) {
                return "IllegalStateException";
            }
            Wire wire = new Wire();
            wire.from = from;
            wire.fromCell = fromCell;
            wire.to = to;
            wire.toCell = toCell;
            wires.add(wire);
            saw = null;
            return String.valueOf(wires.size() - 1);
        }

        String fault(int net, int kind, int other) {
            boolean isShort = kind == 2 || kind == 3;
            if (net < 0 || net >= wires.size() || kind < -1 || kind > 3) {
                return "IllegalArgumentException";
            }
            if (isShort && (other < 0 || other >= wires.size() || other == net)) {
                return "IllegalArgumentException";
            }
            for (int n = 0; n < wires.size(); n++) {
                Wire wire = wires.get(n);
                boolean named = n == net || isShort && n == other;
                boolean partner = wire.other == net || isShort && wire.other >= 0 && wire.other == other;
                if (named || partner) {
                    wire.fault = "none";
                    wire.other = -1;
                }
            }
            String[] names = {"none", "0", "1", "and", "or"};
            wires.get(net).fault = names[kind + 1];
            if (isShort) {
                wires.get(net).other = other;
                wires.get(other).fault = names[kind + 1];
                wires.get(other).other = net;
            }
            return "done";
        }

        String core(int device, int cell, boolean one) {
            if (!hasCell(device, cell) || !ports.get(device).drives[cell]) {
                return "IllegalArgumentException";
            }
            ports.get(device).core[cell] = one;
            return "done";
        }

        boolean output(int device, int cell) {
            Port port = ports.get(device);
            return port.instruction == 0 ? port.latch[cell] : port.core[cell];
        }

        boolean carried(Wire wire) {
            boolean own = output(wire.from, wire.fromCell);
            Wire other = wire.other < 0 ? wire : wires.get(wire.other);
            boolean its = output(other.from, other.fromCell);
            switch (wire.fault) {
                case "0": return false;
                case "1": return true;
                case "and": return own && its;
                case "or": return own || its;
                default: return own;
            }
        }

        boolean signal(int device, int cell) {
            if (ports.get(device).drives[cell]) {
                return output(device, cell);
            }
            for (Wire wire : wires) {
                if (wire.to == device && wire.toCell == cell) {
                    return carried(wire);
                }
            }
            return false;
        }

        boolean[] captured(int device) {
            Port port = ports.get(device);
            if (port.instruction == 1) {
                boolean[] row = new boolean[32];
                for (int i = 0; i < 32; i++) {
                    row[i] = (port.identity & 1 << i) != 0;
                }
                return row;
            }
            if (port.instruction != 0 && port.instruction != 2) {
                return new boolean[1];
            }
            boolean[] row = new boolean[port.drives.length];
            for (int c = 0; c < row.length; c++) {
                row[c] = signal(device, c);
            }
            return row;
        }

        /** All registers as one row, what comes out next first. */
        List<Boolean> chain(boolean instructions) {
            List<Boolean> row = new ArrayList<>();
            for (int d = ports.size() - 1; d >= 0; d--) {
                for (boolean bit : instructions ? ports.get(d).instructionRow : ports.get(d).dataRow) {
                    row.add(bit);
                }
            }
            return row;
        }

        boolean shift(boolean instructions, boolean tdi) {
            List<Boolean> row = chain(instructions);
            boolean out = row.remove(0);
            row.add(tdi);
            for (int d = ports.size() - 1; d >= 0; d--) {
                boolean[] register = instructions ? ports.get(d).instructionRow : ports.get(d).dataRow;
                for (int i = 0; i < register.length; i++) {
                    register[i] = row.remove(0);
                }
            }
            return out;
        }

        boolean clock(boolean tms, boolean tdi) {
            boolean out = false;
            for (int d = 0; d < ports.size(); d++) {
                Port port = ports.get(d);
                switch (state) {
                    case "RESET": port.instruction = 1; break;
                    case "CAPTURE-D": port.dataRow = captured(d); break;
                    case "CAPTURE-I":
                        port.instructionRow = new boolean[port.bits];
                        port.instructionRow[0] = true;
                        break;
                    case "UPDATE-D":
                        for (int c = 0; c < port.drives.length; c++) {
                            boolean takes = port.instruction == 0 || port.instruction == 2;
                            port.latch[c] = takes ? port.drives[c] && port.dataRow[c] : port.latch[c];
                        }
                        break;
                    case "UPDATE-I": port.instruction = number(port.instructionRow); break;
                    default: break;
                }
            }
            if (state.startsWith("SHIFT")) {
                out = shift(state.equals("SHIFT-I"), tdi);
            }
            state = NEXT[stateNumber()].split(" ")[tms ? 2 : 1];
            if (state.equals("RESET")) {
                ports.forEach(port -> port.instruction = 1);
            }
            clocks++;
            return out;
        }

        int look(int device, int what) {
            Port port = ports.get(device);
            boolean[] signals = new boolean[port.drives.length];
            for (int c = 0; c < signals.length; c++) {
                signals[c] = signal(device, c);
            }
            boolean[][] rows = {port.instructionRow, port.latch, signals};
            return what == 0 ? port.instruction : number(rows[what - 1]);
        }

        void goToIdle() {
            for (int i = 0; i < 5; i++) {
                clock(true, false);
            }
            clock(false, false);
        }

        String find() {
            if (ports.isEmpty()) {
                return "IllegalStateException";
            }
            goToIdle();
            clocks += 3 + 160 + 2;
            found = true;
            return String.valueOf(ports.size());
        }

        String test() {
            if (ports.isEmpty() || wires.isEmpty()) {
                return "IllegalStateException";
            }
            goToIdle();
            int rounds = 0;
            while (Math.pow(2, rounds) <= wires.size() + 1) {
                rounds++;
            }
            int bits = 0;
            int cells = 0;
            for (Port port : ports) {
                bits += port.bits;
                cells += port.drives.length;
                port.instruction = 0;
                port.instructionRow = new boolean[port.bits];
                port.latch = new boolean[port.drives.length];
            }
            for (int n = 0; n < wires.size(); n++) {
                Wire wire = wires.get(n);
                ports.get(wire.from).latch[wire.fromCell] = (n + 1 >> rounds - 1) % 2 == 1;
            }
            clocks += 4 + bits + 2 + rounds * 2 * (3 + cells + 2);
            return String.valueOf(countFaulty((1 << rounds) - 1));
        }

        int countFaulty(int allOnes) {
            int faulty = 0;
            saw = new int[wires.size()];
            for (int n = 0; n < saw.length; n++) {
                Wire wire = wires.get(n);
                switch (wire.fault) {
                    case "0": saw[n] = 0; break;
                    case "1": saw[n] = allOnes; break;
                    case "and": saw[n] = n + 1 & wire.other + 1; break;
                    case "or": saw[n] = n + 1 | wire.other + 1; break;
                    default: saw[n] = n + 1; break;
                }
                faulty += saw[n] == n + 1 ? 0 : 1;
            }
            return faulty;
        }

        static int number(boolean[] row) {
            int number = 0;
            for (int i = row.length - 1; i >= 0; i--) {
                number = number * 2 + (row[i] ? 1 : 0);
            }
            return number;
        }
    }

    private static final class Run {
        final int number;
        final Random random;
        final ChainBench bench = new ChainBench();
        final Model model = new Model();
        int calls;

        Run(int number) {
            this.number = number;
            this.random = new Random(number);
        }

        void play() {
            int first = random.nextInt(4);
            for (int d = 0; d < first; d++) {
                device();
            }
            while (calls < CALLS) {
                act();
                if (random.nextInt(4) == 0) {
                    compareAll();
                }
            }
        }

        void act() {
            int choice = random.nextInt(100);
            if (choice < 1) {
                device();
            } else if (choice < 15) {
                net();
            } else if (choice < 25) {
                fault();
            } else if (choice < 35) {
                core();
            } else if (choice < 60) {
                clock(random.nextInt(5) < 2, random.nextBoolean());
            } else if (choice < 70) {
                scan();
            } else if (choice < 73) {
                due("find()", () -> bench.find(), model.find());
            } else if (choice < 76) {
                due("test()", () -> bench.test(), model.test());
            } else {
                ask();
            }
        }

        void due(String call, Hand.Asked asked, String want) {
            calls++;
            if (calls <= CALLS) {
                CHECK.dueText("run " + number + ", call " + calls + ": " + call, Hand.answerOf(asked), want);
            }
        }

        void device() {
            int bits = 1 + random.nextInt(5);
            int identity = random.nextInt(20) == 0 ? -1 : random.nextInt() | (random.nextInt(10) == 0 ? 0 : 1);
            int cells = random.nextInt(8);
            int drivers = random.nextInt();
            due("device(" + bits + ", " + identity + ", " + cells + ", " + drivers + ")",
                () -> bench.device(bits, identity, cells, drivers), model.device(bits, identity, cells, drivers));
        }

        int around(int size) {
            return random.nextInt(size + 2) - (random.nextInt(8) == 0 ? 1 : 0);
        }

        void net() {
            int from = around(model.ports.size());
            int fromCell = around(5);
            int to = around(model.ports.size());
            int toCell = around(5);
            due("net(" + from + ", " + fromCell + ", " + to + ", " + toCell + ")",
                () -> bench.net(from, fromCell, to, toCell), model.net(from, fromCell, to, toCell));
        }

        void fault() {
            int net = around(model.wires.size());
            int kind = random.nextInt(7) - 2;
            int other = around(model.wires.size());
            due("fault(" + net + ", " + kind + ", " + other + ")", () -> {
                bench.fault(net, kind, other);
                return "done";
            }, model.fault(net, kind, other));
        }

        void core() {
            int device = around(model.ports.size());
            int cell = around(5);
            boolean one = random.nextInt(3) > 0;
            due("core(" + device + ", " + cell + ", " + one + ")", () -> {
                bench.core(device, cell, one);
                return "done";
            }, model.core(device, cell, one));
        }

        void clock(boolean tms, boolean tdi) {
            String want = model.ports.isEmpty() ? "IllegalStateException" : String.valueOf(model.clock(tms, tdi));
            due("clock(" + tms + ", " + tdi + ")", () -> bench.clock(tms, tdi), want);
        }

        /** Leads to IDLE and scans, instructions with many zeros so that EXTEST and SAMPLE are often met. */
        void scan() {
            boolean instructions = random.nextBoolean();
            boolean keep = model.state.equals("IDLE");
            String way = (keep ? "" : "111110") + (instructions ? "1" : "") + "100";
            for (char tms : way.toCharArray()) {
                clock(tms == '1', false);
            }
            int bits = 1 + random.nextInt(instructions ? 14 : 24);
            for (int i = 0; i < bits; i++) {
                clock(i == bits - 1, random.nextInt(instructions ? 4 : 2) == 0);
            }
            clock(true, false);
            clock(false, false);
        }

        void ask() {
            int k = around(8);
            int what = random.nextInt(6) - 1;
            boolean hasDevice = k >= 0 && k < model.ports.size();
            boolean hasNet = k >= 0 && k < model.wires.size();
            due("look(" + k + ", " + what + ")", () -> bench.look(k, what),
                hasDevice && what >= 0 && what <= 3 ? String.valueOf(model.look(k, what)) : "IllegalArgumentException");
            due("value(" + k + ")", () -> bench.value(k),
                hasNet ? String.valueOf(model.carried(model.wires.get(k))) : "IllegalArgumentException");
            due("found(" + k + ")", () -> bench.found(k),
                hasDevice && model.found ? String.valueOf(model.ports.get(k).identity) : "IndexOutOfBoundsException");
            due("saw(" + k + ")", () -> bench.saw(k),
                hasNet && model.saw != null ? String.valueOf(model.saw[k]) : "IndexOutOfBoundsException");
        }

        void compareAll() {
            due("state()", () -> bench.state(), String.valueOf(model.stateNumber()));
            due("clocks()", () -> bench.clocks(), String.valueOf(model.clocks));
            for (int d = 0; d < model.ports.size(); d++) {
                int device = d;
                for (int w = 0; w < 4; w++) {
                    int what = w;
                    due("look(" + d + ", " + w + ")", () -> bench.look(device, what), String.valueOf(model.look(d, w)));
                }
            }
        }
    }
}
