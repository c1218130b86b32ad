/** Promises 2 and 3: set and word. */
public final class WordsTest {
    private static final int[] NO_WORDS = {
        -4, -1, 1, 2, 3, 5, 6, 7, 1021, 1022, 1023, 1024, 1028, 2048, Integer.MIN_VALUE, Integer.MAX_VALUE, 0x10000000
    };

    public static void main(String[] args) {
        Check check = new Check();
        everyWordIsItsOwn(check);
        othersAreRefused(check);
        theLowestByteIsFirst(check);
        areasDoNotCount(check);
        check.end();
    }

    private static void everyWordIsItsOwn(Check check) {
        NestedCore core = new NestedCore();
        for (int address = 0; address < 1024; address += 4) {
            core.set(address, valueAt(address));
        }
        for (int address = 0; address < 1024; address += 4) {
            check.same("word(" + address + ")", core.word(address), valueAt(address));
        }
    }

    private static int valueAt(int address) {
        return address == 0 ? Integer.MIN_VALUE : address == 1020 ? -1 : address * 0x01234567 - 9;
    }

    private static void othersAreRefused(Check check) {
        NestedCore core = new NestedCore();
        for (int address : NO_WORDS) {
            check.refused("set(" + address + ", 1)", () -> core.set(address, 1));
            check.refused("word(" + address + ")", () -> core.word(address));
        }
        for (int address = 0; address < 1024; address += 4) {
            check.same("word(" + address + ") after what was refused", core.word(address), 0);
        }
    }

    private static void theLowestByteIsFirst(Check check) {
        NestedCore core = new NestedCore();
        core.set(256, Code.mov(0, 1) | Code.mov(1, 2) << 16);
        core.put(15, 256);
        core.run(1);
        check.same("R0 by the lower half", core.register(0), 1);
        check.same("R1 before the upper half", core.register(1), 0);
        core.run(1);
        check.same("R1 by the upper half", core.register(1), 2);
    }

    private static void areasDoNotCount(Check check) {
        NestedCore core = new NestedCore();
        core.area(0, 0, 1024, 0, true);
        core.set(16, 12);
        check.same("word(16) in a barred area", core.word(16), 12);
    }
}
