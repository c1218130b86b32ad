/** The example that README.md shows under "Use", call by call: what its comments say must be so. */
public final class ReadmeTest {
    public static void main(String[] args) {
        Check check = new Check();
        NestedCore core = new NestedCore();
        core.put(13, 1024);
        core.put(15, 256);
        core.set(256, 0xBF002005);
        core.set(4 * 10, 512);
        core.set(512, 0x47702107);
        core.rank(10, 3, true);
        core.pend(10, true);
        check.same("the steps of the example", core.run(4), 4);
        check.same("R0", core.register(0), 5);
        check.same("R1, from the frame", core.register(1), 0);
        check.same("how many were taken", core.state(4), 1);
        check.same("the number", core.state(1), 0);
        check.same("how many faults", core.state(7), 0);
        check.end();
    }
}
