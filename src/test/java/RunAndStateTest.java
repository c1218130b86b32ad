/** Promises 9 and 10: how many steps run does, and what state answers. */
public final class RunAndStateTest {
    public static void main(String[] args) {
        Check check = new Check();
        stepsAreCounted(check);
        wrongCounts(check);
        wrongStates(check);
        askingChangesNothing(check);
        flags(check);
        exceptions(check);
        theReadmesRun(check);
        check.end();
    }

    private static void stepsAreCounted(Check check) {
        for (int n = 1; n <= 25; n++) {
            NestedCore core = Code.core(Code.number(2, 0, 1), Code.branch(-3));
            check.same("run(" + n + ")", core.run(n), n);
            check.same("R0 after " + n, core.register(0), (n + 1) / 2);
        }
        NestedCore core = Code.core(Code.NOTHING, Code.NOTHING, Code.UNKNOWN);
        core.put(17, 1);
        check.same("run(2) before the halt", core.run(2), 2);
        check.same("not HALTED", core.state(6), 0);
        check.same("the step that halts counts", core.run(25), 1);
        check.same("HALTED", core.state(6), 1);
        check.same("none while HALTED", core.run(1), 0);
    }

    private static void wrongCounts(Check check) {
        NestedCore core = Code.core(Code.mov(0, 1));
        int[] counts = {0, -1, 26, 27, 100, Integer.MIN_VALUE, Integer.MAX_VALUE};
        for (int n : counts) {
            check.refused("run(" + n + ")", () -> core.run(n));
        }
        check.same("no step was done", core.register(15), Code.START);
        NestedCore halted = Code.core(Code.UNKNOWN);
        halted.put(17, 1);
        halted.run(1);
        check.refused("run(0) while HALTED", () -> halted.run(0));
        check.refused("run(26) while HALTED", () -> halted.run(26));
    }

    private static void wrongStates(Check check) {
        NestedCore core = new NestedCore();
        int[] none = {-1, 9, 10, 15, 16, 17, 32, 33, Integer.MIN_VALUE, Integer.MAX_VALUE};
        for (int what : none) {
            check.refused("state(" + what + ")", () -> core.state(what));
        }
    }

    private static void askingChangesNothing(Check check) {
        NestedCore core = Code.core(Code.NOTHING);
        core.pend(8, true);
        core.put(20, 7);
        for (int round = 0; round < 2; round++) {
            check.same("due", core.state(3), 8);
            check.same("taken", core.state(4), 0);
            check.same("COUNTER", core.state(8), 7);
            check.same("8", core.state(24), 5);
            check.same("PC", core.register(15), Code.START);
        }
    }

    private static void flags(Check check) {
        for (int four = 0; four <= 15; four++) {
            check.same("flags", Code.flagged(four).state(0), four);
        }
    }

    private static void exceptions(Check check) {
        NestedCore core = Code.core(Code.NOTHING);
        core.rank(10, 2, true);
        core.pend(10, true);
        core.run(1);
        check.same("active and enabled", core.state(26), 6);
        core.pend(10, true);
        check.same("pending, active and enabled", core.state(26), 7);
        check.same("it is not due while it is active", core.state(3), 0);
        core.rank(10, 2, false);
        check.same("pending and active", core.state(26), 3);
        core.pend(10, false);
        check.same("active", core.state(26), 2);
        core.pend(11, true);
        check.same("pending", core.state(27), 1);
    }

    private static void theReadmesRun(Check check) {
        NestedCore core = new NestedCore();
        core.put(13, 1024);
        core.put(15, 256);
        core.set(256, 0xBF002005);
        core.set(4 * 10, 512);
        core.set(512, 0x47702107);
        core.rank(10, 3, true);
        core.pend(10, true);
        check.same("run(4)", core.run(4), 4);
        check.same("R0", core.register(0), 5);
        check.same("R1", core.register(1), 0);
        check.same("taken", core.state(4), 1);
    }
}
