/** Promises 4 and 5: put and register. */
public final class RegistersTest {
    public static void main(String[] args) {
        Check check = new Check();
        registersHoldInts(check);
        pcIsEven(check);
        switches(check);
        lowestBits(check);
        reloadSetsTheCounter(check);
        othersAreRefused(check);
        check.end();
    }

    private static void registersHoldInts(Check check) {
        NestedCore core = new NestedCore();
        for (int r = 0; r <= 14; r++) {
            core.put(r, -r * 1000 - 1);
        }
        for (int r = 0; r <= 14; r++) {
            check.same("register(" + r + ")", core.register(r), -r * 1000 - 1);
        }
        check.same("PC after the others were put", core.register(15), 0);
        core.put(13, Integer.MIN_VALUE + 3);
        check.same("SP", core.register(13), Integer.MIN_VALUE + 3);
    }

    private static void pcIsEven(Check check) {
        NestedCore core = new NestedCore();
        int[][] rows = {{257, 256}, {256, 256}, {-1, -2}, {-7, -8}, {Integer.MAX_VALUE, Integer.MAX_VALUE - 1}};
        for (int[] row : rows) {
            core.put(15, row[0]);
            check.same("PC after put(15, " + row[0] + ")", core.register(15), row[1]);
        }
    }

    private static void switches(Check check) {
        NestedCore core = new NestedCore();
        for (int r = 16; r <= 17; r++) {
            int[] values = {1, 0, -8, 0, 2, 256, Integer.MIN_VALUE, 0};
            for (int v : values) {
                core.put(r, v);
                check.same("register(" + r + ") after " + v, core.register(r), v == 0 ? 0 : 1);
                check.same("the other switch", core.register(33 - r), 0);
                check.same("the level", core.state(2), v == 0 ? 8 : r == 16 ? 0 : -1);
            }
        }
    }

    private static void lowestBits(Check check) {
        NestedCore core = new NestedCore();
        int[] most = {7, 3, 255};
        int[] values = {0, 1, 2, 3, 4, 7, 8, 9, 128, 255, 256, 257, 511, -1, -2, -256, Integer.MIN_VALUE + 5};
        for (int k = 0; k < most.length; k++) {
            int r = 18 + k;
            for (int v : values) {
                core.put(r, v);
                check.same("register(" + r + ") after " + v, core.register(r), v & most[k]);
            }
        }
    }

    private static void reloadSetsTheCounter(Check check) {
        NestedCore core = Code.core(Code.NOTHING, Code.NOTHING, Code.NOTHING);
        core.put(20, 0x109);
        check.same("COUNTER", core.state(8), 9);
        core.run(2);
        check.same("COUNTER after two steps", core.state(8), 7);
        check.same("RELOAD after two steps", core.register(20), 9);
        core.put(20, 5);
        check.same("COUNTER anew", core.state(8), 5);
        core.put(20, 256);
        check.same("COUNTER off", core.state(8), 0);
        core.run(1);
        check.same("COUNTER stays off", core.state(8), 0);
        check.same("9 is not pending", core.state(25), 4);
    }

    private static void othersAreRefused(Check check) {
        NestedCore core = new NestedCore();
        int[] none = {-1, -16, 21, 22, 32, 255, Integer.MIN_VALUE, Integer.MAX_VALUE};
        for (int r : none) {
            check.refused("put(" + r + ", 1)", () -> core.put(r, 1));
            check.refused("register(" + r + ")", () -> core.register(r));
        }
    }
}
