/** Counts what was checked, and prints what is not as due. */
final class Checks {
    private final String name;
    private int passed;
    private int failed;

    Checks(String name) {
        this.name = name;
    }

    void same(String what, long got, long due) {
        tell(got == due, what + " answered " + got + ", due is " + due);
    }

    void holds(String what, boolean isSo) {
        tell(isSo, what);
    }

    private void tell(boolean isSo, String complaint) {
        if (isSo) {
            passed++;
        } else {
            failed++;
            System.out.println(name + ": " + complaint);
        }
    }

    /** The last call of a test's main: exit code 1, if anything was not as due. */
    void end() {
        System.out.println(name + ": " + passed + " checks as due, " + failed + " not");
        if (failed != 0 || passed == 0) {
            System.exit(1);
        }
    }
}
