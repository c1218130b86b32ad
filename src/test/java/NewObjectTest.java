/** Promise 1: a new object is 0, off, or as told. */
public final class NewObjectTest {
    public static void main(String[] args) {
        Check check = new Check();
        NestedCore core = new NestedCore();
        for (int address = 0; address < 1024; address += 4) {
            check.same("word(" + address + ")", core.word(address), 0);
        }
        for (int r = 0; r <= 20; r++) {
            check.same("register(" + r + ")", core.register(r), 0);
        }
        for (int what = 0; what <= 8; what++) {
            check.same("state(" + what + ")", core.state(what), what == 2 ? 8 : 0);
        }
        for (int e = 2; e <= 15; e++) {
            boolean always = e <= 3 || e >= 7 && e <= 9;
            check.same("state(16 + " + e + ")", core.state(16 + e), always ? 4 : 0);
        }
        prioritiesAreZero(check);
        areasAreOff(check);
        objectsAreApart(check);
        check.end();
    }

    private static void prioritiesAreZero(Check check) {
        for (int e = 7; e <= 9; e++) {
            NestedCore core = Code.core(Code.NOTHING);
            core.pend(e, true);
            core.run(1);
            check.same("the level while " + e + " is active", core.state(2), 0);
        }
    }

    private static void areasAreOff(Check check) {
        NestedCore core = Code.core(Code.store(1, 0, 0), Code.load(2, 0, 0));
        core.put(1, 77);
        check.same("run(2) without areas", core.run(2), 2);
        check.same("faults without areas", core.state(7), 0);
        check.same("the word that was stored and read", core.register(2), 77);
    }

    private static void objectsAreApart(Check check) {
        NestedCore one = new NestedCore();
        NestedCore other = new NestedCore();
        one.set(8, 5);
        one.put(3, 6);
        one.pend(3, true);
        check.same("another object's word", other.word(8), 0);
        check.same("another object's register", other.register(3), 0);
        check.same("another object's exception", other.state(19), 4);
    }
}
