/** Counts the answers that are not the ones that are due, and tells each of them. */
final class Check {
    private final String name;
    private int wrong = 0;

    Check(String name) {
        this.name = name;
    }

    void due(String call, long got, long want) {
        if (got != want) {
            wrong++;
            System.out.println(name + ": " + call + " answered " + got + ", due is " + want);
        }
    }

    void holds(String what, boolean isSo) {
        if (!isSo) {
            wrong++;
            System.out.println(name + ": not so: " + what);
        }
    }

    void end() {
        if (wrong != 0) {
            System.out.println(name + ": " + wrong + " wrong");
            System.exit(1);
        }
    }
}
