import java.util.ArrayList;
import java.util.List;

/** All that can be asked of a core but its memory, so that two moments can be compared. */
final class Look {
    private Look() {
    }

    static List<Integer> at(NestedCore core) {
        List<Integer> seen = new ArrayList<>();
        for (int r = 0; r <= 20; r++) {
            seen.add(core.register(r));
        }
        for (int what = 0; what <= 8; what++) {
            seen.add(core.state(what));
        }
        for (int e = 2; e <= 15; e++) {
            seen.add(core.state(16 + e));
        }
        return seen;
    }

    static void unchanged(Check check, String what, NestedCore core, List<Integer> before) {
        check.same(what + ": nothing is changed", at(core).equals(before) ? 1 : 0, 1);
    }
}
