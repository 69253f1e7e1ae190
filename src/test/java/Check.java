/** Counts answers that are not as due, for one test program. */
final class Check {
    private final String name;
    private int checks = 0;
    private int wrong = 0;

    Check(String name) {
        this.name = name;
    }

    void due(String what, long got, long want) {
        checks++;
        if (got != want) {
            wrong++;
            if (wrong <= 40) {
                System.out.println(name + ": " + what + " answered " + got + ", due is " + want);
            }
        }
    }

    /** What the NOTES from one number on answer, in turn. */
    void dueOf(String what, StaffHeads x, int asked, int first, int... wants) {
        for (int i = 0; i < wants.length; i++) {
            due(what + ": of(" + (first + i) + ", " + asked + ")", x.of(first + i, asked), wants[i]);
        }
    }

    void holds(String what, boolean truth) {
        due(what, truth ? 1 : 0, 1);
    }

    void end() {
        System.out.println(name + ": " + checks + " checks, " + wrong + " wrong");
        if (wrong != 0) {
            System.exit(1);
        }
    }
}
