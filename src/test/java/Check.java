/** Counts and prints the answers that are not as due. */
final class Check {
    private int wrong = 0;

    void same(String what, long got, long due) {
        if (got != due) {
            wrong++;
            System.out.println(what + " answered " + got + ", due is " + due);
        }
    }

    void refused(String what, Runnable call) {
        try {
            call.run();
        } catch (IllegalArgumentException e) {
            return;
        }
        wrong++;
        System.out.println(what + " did not throw IllegalArgumentException");
    }

    void end() {
        if (wrong != 0) {
            System.out.println(wrong + " answers are not as due");
            System.exit(1);
        }
    }
}
