/** Drives a bench by hand: ways through the states, scans, and the telling of all that can be seen. */
final class Hand {
    /** TMS from RESET to each state, without a shift on the way: so registers keep what they captured. */
    static final String[] WAYS = {
        "", "0", "01", "010", "0100", "0101", "01010", "010101", "01011",
        "011", "0110", "01100", "01101", "011010", "0110101", "011011"};

    private static final int MOST_DEVICES = 4;
    private static final int MOST_NETS = 8;
    private static final int MOST_CELLS = 6;

    private Hand() {
    }

    interface Asked {
        Object answer();
    }

    /** Clocks with these TMS and TDI 0. */
    static void go(ChainBench x, String tms) {
        for (int i = 0; i < tms.length(); i++) {
            x.clock(tms.charAt(i) == '1', false);
        }
    }

    /** From IDLE to IDLE: the bits go in, the first one first; answers those that come out. */
    static String scanD(ChainBench x, String in) {
        go(x, "100");
        String out = shift(x, in);
        go(x, "10");
        return out;
    }

    static String scanI(ChainBench x, String in) {
        go(x, "1");
        return scanD(x, in);
    }

    /** In SHIFT-D or SHIFT-I: the last bit leads to EXIT1. */
    static String shift(ChainBench x, String in) {
        StringBuilder out = new StringBuilder();
        for (int i = 0; i < in.length(); i++) {
            out.append(x.clock(i == in.length() - 1, in.charAt(i) == '1') ? '1' : '0');
        }
        return out.toString();
    }

    /** The bits of a number, the lowest first. */
    static String bits(int number, int count) {
        StringBuilder out = new StringBuilder();
        for (int i = 0; i < count; i++) {
            out.append((char) ('0' + (number >>> i & 1)));
        }
        return out.toString();
    }

    static void setCores(ChainBench x, int cores) {
        for (int n = 0; n < 4; n++) {
            x.core(0, n, (cores >> n & 1) == 1);
        }
    }

    static int values(ChainBench x) {
        int values = 0;
        for (int n = 0; n < 4; n++) {
            values |= x.value(n) ? 1 << n : 0;
        }
        return values;
    }

    static String answerOf(Asked asked) {
        Object[] answer = {null};
        String thrown = Checks.thrownBy(() -> answer[0] = asked.answer());
        return answer[0] == null ? thrown : String.valueOf(answer[0]);
    }

    /** All that the asking calls tell, a line for each call: 38 calls. */
    static String everything(ChainBench x) {
        StringBuilder told = new StringBuilder();
        tell(told, "state()", () -> x.state());
        tell(told, "clocks()", () -> x.clocks());
        for (int d = 0; d < MOST_DEVICES; d++) {
            int device = d;
            for (int w = 0; w < 4; w++) {
                int what = w;
                tell(told, "look(" + d + ", " + w + ")", () -> x.look(device, what));
            }
            tell(told, "found(" + d + ")", () -> x.found(device));
        }
        for (int n = 0; n < MOST_NETS; n++) {
            int net = n;
            tell(told, "value(" + n + ")", () -> x.value(net));
            tell(told, "saw(" + n + ")", () -> x.saw(net));
        }
        return told.toString();
    }

    /** What is hidden at first (cells on nets, faults, the devices' order) shows in later calls: some 250. */
    static String everythingAndAfter(ChainBench x) {
        StringBuilder told = new StringBuilder(everything(x));
        for (int d = 0; d < MOST_DEVICES; d++) {
            for (int c = 0; c < MOST_CELLS; c++) {
                int device = d;
                int cell = c;
                tell(told, "core(" + d + ", " + c + ", true)", () -> {
                    x.core(device, cell, true);
                    return "done";
                });
            }
        }
        told.append(everything(x));
        tell(told, "test()", () -> x.test());
        tell(told, "find()", () -> x.find());
        told.append(everything(x));
        for (int d = 0; d < MOST_DEVICES; d++) {
            for (int c = 0; c < MOST_CELLS; c++) {
                int device = d;
                int cell = c;
                int mirrored = MOST_CELLS - 1 - c;
                tell(told, "net " + d + " " + c, () -> x.net(device, cell, device, mirrored));
                tell(told, "net " + d + " " + c + " back", () -> x.net(device, mirrored, device, cell));
            }
        }
        tell(told, "device(2, 5, 1, 0)", () -> x.device(2, 5, 1, 0));
        return told.append(everything(x)).toString();
    }

    private static void tell(StringBuilder told, String call, Asked asked) {
        told.append(call).append(" = ").append(answerOf(asked)).append('\n');
    }

    /** The first line in which two tellings differ, or nothing. */
    static String difference(String got, String want) {
        String[] gotLines = got.split("\n");
        String[] wantLines = want.split("\n");
        for (int i = 0; i < Math.max(gotLines.length, wantLines.length); i++) {
            String one = i < gotLines.length ? gotLines[i] : "no line";
            String other = i < wantLines.length ? wantLines[i] : "no line";
            if (!one.equals(other)) {
                return one + ", due is " + other;
            }
        }
        return "";
    }
}
